/** Boundaries of the lifetime of an object, of time and of slides. */
final class SlideBounds {
  private SlideBounds() {
  }

  private static SlidePark slides(int count) {
    SlidePark park = Scene.fresh();
    for (int i = 0; i < count; i++) {
      park.buildSlide(1 + i, 9 - i);
    }
    return park;
  }

  @Says("What it is: An object is used for at most 512 calls after it has been made")
  static void call512IsStillAnswered() {
    SlidePark park = new SlidePark();
    for (int call = 1; call <= 511; call++) {
      Check.due("call " + call, park.passMinutes(60), 0);
    }
    Check.due("minute() as call 512", park.minute(), 511 * 60);
  }

  @Says({"Time: The present minute is 0 at first; minute m is the time from m to m plus 1.",
      "Promise 1: Creates an office without slides and guests at minute 0."})
  static void minuteIsZeroAtFirst() {
    SlidePark park = new SlidePark();
    Check.due("minute", park.minute(), 0);
    Check.due("slideCount", park.slideCount(), 0);
    Check.due("guestCount", park.guestCount(), 0);
    park.buildSlide(1, 1);
    park.addGuest();
    park.book(0, 0, 0);
    Check.due("minute", park.minute(), 0);
    Check.due("rider in minute 0", park.rider(0), 0);
    park.passMinutes(1);
    Check.due("minute", park.minute(), 1);
    Check.due("rider in minute 1", Check.outcome(() -> park.rider(0)),
        "throws.NoSuchElementException");
  }

  @Says({"Slides: At most 4 slides exist.", "Promise 10: Returns the number, 0 to 4.",
      "Promise 2: Throws `IllegalStateException` if there are 4 slides"})
  static void fourSlidesAndNoFifth() {
    SlidePark park = Scene.fresh();
    for (int i = 0; i < 4; i++) {
      Check.due("slideCount", park.slideCount(), i);
      Check.due("buildSlide", park.buildSlide(9, 9), i);
    }
    Check.due("slideCount", park.slideCount(), 4);
    Scene.refused(Check.STATE, "a fifth slide", () -> slides(4), p -> p.buildSlide(1, 1));
    Scene.refused(Check.STATE, "a fifth slide", () -> slides(4), p -> p.buildSlide(9, 9));
  }

  @Says("Slides: Their indices start at 0, follow the order in which they were built, and never "
      + "change.")
  static void indicesOfSlidesNeverChange() {
    SlidePark park = slides(4);
    park.addGuest();
    park.book(0, 3, 0);
    park.book(0, 1, 4);
    park.passMinutes(60);
    for (int slide = 0; slide < 4; slide++) {
      Check.due("duration(" + slide + ")", park.duration(slide), 1 + slide);
      Check.due("price(" + slide + ")", park.price(slide), 9 - slide);
    }
  }

  @Says({"Slides: A slide has a duration from 1 to 9 minutes",
      "Promise 2: `duration`: the duration in minutes, 1 to 9",
      "Promise 2: Throws `IllegalArgumentException` if the duration or the price is out of range"})
  static void durationsFrom1To9() {
    for (int duration = 1; duration <= 9; duration++) {
      SlidePark park = Scene.fresh();
      Check.due("buildSlide(" + duration + ", 5)", park.buildSlide(duration, 5), 0);
      Check.due("duration", park.duration(0), duration);
    }
    for (int duration : new int[] {0, 10}) {
      dueOutOfRange(duration, 5);
    }
    for (int duration : Scene.FAR_OUT) {
      dueOutOfRange(duration, 5);
    }
  }

  @Says({"Slides: a price from 1 to 9 coins", "Promise 2: `price`: the price in coins, 1 to 9",
      "Promise 2: Throws `IllegalArgumentException` if the duration or the price is out of range"})
  static void pricesFrom1To9() {
    for (int price = 1; price <= 9; price++) {
      SlidePark park = Scene.fresh();
      Check.due("buildSlide(5, " + price + ")", park.buildSlide(5, price), 0);
      Check.due("price", park.price(0), price);
    }
    for (int price : new int[] {0, 10}) {
      dueOutOfRange(5, price);
    }
    for (int price : Scene.FAR_OUT) {
      dueOutOfRange(5, price);
    }
    dueOutOfRange(0, 10);
    dueOutOfRange(10, 0);
  }

  private static void dueOutOfRange(int duration, int price) {
    for (int count : new int[] {0, 3}) {
      Scene.refused(Check.ARGUMENT, "buildSlide(" + duration + ", " + price + ")",
          () -> slides(count), p -> p.buildSlide(duration, price));
    }
  }

  @Says("Slides: and a wetness from 0 to 9, initially 0.")
  static void wetnessIsZeroAtFirst() {
    SlidePark park = Scene.fresh();
    park.addGuest();
    for (int slide = 0; slide < 4; slide++) {
      park.buildSlide(1, 1);
      Check.due("wetness of a new slide", park.wetness(slide), 0);
      park.book(0, slide, park.minute());
      park.passMinutes(1);
      Check.due("wetness after a ride", park.wetness(slide), 2);
    }
  }

  @Says("Promise 11: Throws `IndexOutOfBoundsException` if there is no such slide")
  static void durationOfNoSlide() {
    dueOnlySlides("duration", SlidePark::duration);
  }

  @Says("Promise 12: Throws `IndexOutOfBoundsException` if there is no such slide")
  static void priceOfNoSlide() {
    dueOnlySlides("price", SlidePark::price);
  }

  @Says("Promise 13: Throws `IndexOutOfBoundsException` if there is no such slide")
  static void wetnessOfNoSlide() {
    dueOnlySlides("wetness", SlidePark::wetness);
  }

  private static void dueOnlySlides(String what, Scene.ActAt act) {
    for (int count = 0; count <= 4; count++) {
      int slides = count;
      Scene.onlyBelow(count, Check.INDEX, what, () -> slides(slides), act);
    }
  }

  @Says("Promise 14: Throws `IndexOutOfBoundsException` if there is no such slide")
  static void riderOfNoSlide() {
    for (int count = 0; count <= 4; count++) {
      int slides = count;
      Scene.onlyBelow(count, Check.INDEX, "rider", () -> allSlidesBusy(slides), SlidePark::rider);
    }
  }

  private static SlidePark allSlidesBusy(int slides) {
    SlidePark park = slides(slides);
    for (int slide = 0; slide < slides; slide++) {
      park.addGuest();
      park.book(slide, slide, 0);
    }
    return park;
  }

  @Says("Promise 14: Throws `NoSuchElementException` if there is no such booking")
  static void riderFromTheFirstMinuteToTheLast() {
    for (int duration = 1; duration <= 9; duration++) {
      int[] shape = {duration, 1, 9, 1};
      for (int minute = 0; minute <= 4 + duration; minute++) {
        int asked = minute;
        Scene.Way way = () -> {
          SlidePark park = Scene.office(2, shape);
          park.book(1, 0, 3);
          park.book(0, 1, 30);
          for (int i = 0; i < asked; i++) {
            park.passMinutes(1);
          }
          return park;
        };
        String what = "rider in minute " + minute + " of a ride of " + duration + " from 3 on";
        if (minute >= 3 && minute <= 2 + duration) {
          Check.due(what, way.make().rider(0), 1);
        } else {
          Scene.refused(Check.NO_ELEMENT, what, way, p -> p.rider(0));
        }
        Scene.refused(Check.NO_ELEMENT, "rider of the other slide", way, p -> p.rider(1));
      }
    }
  }

  @Says({"Promise 44: `rank`: the rank, counted from 0",
      "Promise 44: Throws `NoSuchElementException` if there is no such rank"})
  static void ranksOfSlides() {
    for (int count = 0; count <= 4; count++) {
      int slides = count;
      Scene.onlyBelow(count, Check.NO_ELEMENT, "slideByWetness", () -> slides(slides),
          SlidePark::slideByWetness);
    }
  }

  @Says("Promise 44: sorted by wetness in descending order, then by index in ascending order.")
  static void slidesOfOneWetnessByIndex() {
    SlidePark park = Scene.office(4, 1, 1, 1, 1, 1, 1, 1, 1);
    dueOrder(park, 0, 1, 2, 3);
    park.book(0, 1, 0);
    park.book(1, 3, 0);
    park.passMinutes(1);
    dueOrder(park, 1, 3, 0, 2);
    park.book(0, 2, 1);
    park.passMinutes(1);
    // The wetnesses are 0, 1, 2 and 1.
    dueOrder(park, 2, 1, 3, 0);
    park.passMinutes(1);
    dueOrder(park, 2, 0, 1, 3);
    park.passMinutes(1);
    dueOrder(park, 0, 1, 2, 3);
  }

  private static void dueOrder(SlidePark park, int... order) {
    for (int rank = 0; rank < order.length; rank++) {
      Check.due("slideByWetness(" + rank + ") in minute " + park.minute(),
          park.slideByWetness(rank), order[rank]);
    }
  }

  @Says("Promise 46: Throws `ArithmeticException` if there are no slides")
  static void busyShareOfNoSlides() {
    Scene.refused(Check.ARITHMETIC, "busyShare", () -> Scene.office(2), SlidePark::busyShare);
    for (int slides = 1; slides <= 4; slides++) {
      Check.due("busyShare when none is busy", slides(slides).busyShare(), 0f);
      Check.due("busyShare when all are busy", allSlidesBusy(slides).busyShare(), 1f);
    }
  }

  @Says("Promise 46: Returns the share of slides that have a booking in the present minute")
  static void busyFromTheFirstMinuteToTheLast() {
    SlidePark park = Scene.office(2, 2, 1, 9, 1, 9, 1);
    park.book(1, 0, 1);
    float[] shares = {0f, 1f / 3f, 1f / 3f, 0f};
    for (float share : shares) {
      Check.due("busyShare in minute " + park.minute(), park.busyShare(), share);
      park.passMinutes(1);
    }
  }
}
