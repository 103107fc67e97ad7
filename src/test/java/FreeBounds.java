/** Boundaries of free minutes: promises 26 to 28. */
final class FreeBounds {
  private FreeBounds() {
  }

  private static SlidePark atMinute(int now) {
    SlidePark park = Scene.office(2, 3, 1, 1, 1);
    for (int i = 0; i < now; i++) {
      park.passMinutes(1);
    }
    return park;
  }

  @Says("Promise 26: Throws `IndexOutOfBoundsException` if there is no such slide")
  static void isFreeOfNoSlide() {
    dueOnlySlides("isFree", (p, slide) -> p.isFree(slide, 0));
  }

  @Says("Promise 27: Throws `IndexOutOfBoundsException` if there is no such slide")
  static void firstFreeOfNoSlide() {
    dueOnlySlides("firstFree", (p, slide) -> p.firstFree(slide, 0));
  }

  @Says("Promise 28: Throws `IndexOutOfBoundsException` if there is no such slide")
  static void firstFreeByGapsOfNoSlide() {
    dueOnlySlides("firstFreeByGaps", (p, slide) -> p.firstFreeByGaps(slide, 0));
  }

  private static void dueOnlySlides(String what, Scene.ActAt act) {
    Scene.onlyBelow(0, Check.INDEX, what, Scene::fresh, act);
    Scene.onlyBelow(2, Check.INDEX, what, () -> atMinute(0), act);
    Scene.onlyBelow(4, Check.INDEX, what, () -> Scene.office(1, 1, 1, 1, 1, 1, 1, 1, 1), act);
  }

  @Says({"Promise 26: `start`: the first minute, from the present minute to the present minute "
      + "plus 120", "Promise 26: Throws `IllegalArgumentException` if the start is out of range"})
  static void isFreeUpTo120MinutesAhead() {
    for (int now : new int[] {0, 1, 59}) {
      Check.due("isFree now", atMinute(now).isFree(0, now), true);
      Check.due("isFree 120 minutes ahead", atMinute(now).isFree(0, now + 120), true);
      dueMinutesInRange(now, "isFree", (p, start) -> p.isFree(0, start));
    }
  }

  @Says({"Promise 27: `from`: the minute, from the present minute to the present minute plus 120",
      "Promise 27: Throws `IllegalArgumentException` if the minute is out of range"})
  static void firstFreeFromUpTo120MinutesAhead() {
    for (int now : new int[] {0, 1, 59}) {
      Check.due("firstFree now", atMinute(now).firstFree(0, now), now);
      Check.due("firstFree 120 ahead", atMinute(now).firstFree(0, now + 120), now + 120);
      dueMinutesInRange(now, "firstFree", (p, from) -> p.firstFree(0, from));
    }
  }

  @Says({"Promise 28: `from`: the minute, from the present minute to the present minute plus 120",
      "Promise 28: Throws `IllegalArgumentException` if the minute is out of range"})
  static void firstFreeByGapsFromUpTo120MinutesAhead() {
    for (int now : new int[] {0, 1, 59}) {
      Check.due("firstFreeByGaps now", atMinute(now).firstFreeByGaps(0, now), now);
      Check.due("firstFreeByGaps 120 ahead", atMinute(now).firstFreeByGaps(0, now + 120),
          now + 120);
      dueMinutesInRange(now, "firstFreeByGaps", (p, from) -> p.firstFreeByGaps(0, from));
    }
  }

  private static void dueMinutesInRange(int now, String what, Scene.ActAt act) {
    for (int minute : new int[] {now - 1, now + 121}) {
      Scene.refused(Check.ARGUMENT, what + " of " + minute + " in minute " + now,
          () -> atMinute(now), p -> act.on(p, minute));
    }
    for (int minute : Scene.FAR_OUT) {
      Scene.refused(Check.ARGUMENT, what + " of " + minute, () -> atMinute(now),
          p -> act.on(p, minute));
    }
  }

  @Says("Promise 26: Returns whether a booking of a slide from a minute on would not take place in "
      + "the same minute as another booking of this slide.")
  static void notFreeFromOneRideBeforeToTheEnd() {
    for (int duration = 1; duration <= 9; duration++) {
      SlidePark park = Scene.office(2, duration, 1, 1, 1);
      park.book(0, 0, 20);
      park.book(1, 1, 40);
      for (int start = 0; start <= 120; start++) {
        boolean free = start <= 20 - duration || start >= 20 + duration;
        Check.due("isFree(0, " + start + ") of a ride of " + duration, park.isFree(0, start), free);
      }
    }
  }

  @Says("Promise 26: in the same minute as another booking of this slide.")
  static void fromNoBookingToTwelveAndBack() {
    SlidePark park = Scene.office(1, 2, 1, 1, 1);
    for (int count = 0; count <= 12; count++) {
      for (int i = 0; i <= 12; i++) {
        boolean free = i >= count;
        Check.due("isFree of booking " + i + " of " + count, park.isFree(0, 20 + 2 * i), free);
      }
      dueFirst(park, 20, 20 + 2 * count);
      if (count < 12) {
        park.book(0, 0, 20 + 2 * count);
      }
    }
    for (int count = 11; count >= 0; count--) {
      park.cancel(count);
      Check.due("isFree of the last that is left", park.isFree(0, 18 + 2 * count), count == 0);
      Check.due("isFree of a cancelled booking", park.isFree(0, 20 + 2 * count), true);
      dueFirst(park, 20, 20 + 2 * count);
    }
  }

  private static void dueFirst(SlidePark park, int from, int want) {
    Check.due("firstFree(0, " + from + ")", park.firstFree(0, from), want);
    Check.due("firstFreeByGaps(0, " + from + ")", park.firstFreeByGaps(0, from), want);
  }

  @Says({"Promise 27: Returns the first minute from a minute on for which isFree returns true",
      "Promise 28: Returns the same minute as firstFree"})
  static void aGapAsLongAsTheRideIsEnough() {
    for (int duration = 1; duration <= 9; duration++) {
      SlidePark park = Scene.office(2, duration, 1);
      int first = 20;
      int narrow = first + duration + (duration - 1);
      int wide = narrow + duration + duration;
      park.book(1, 0, wide);
      park.book(0, 0, first);
      park.book(0, 0, narrow);
      for (int from = 0; from <= wide + duration + 1; from++) {
        int want = from <= first - duration ? from
            : from <= wide - duration ? Math.max(from, narrow + duration)
            : Math.max(from, wide + duration);
        // A ride of one minute has no narrow gap: its second booking begins where the first ends.
        dueFirst(park, from, want);
      }
    }
  }

  /** A booking of slide 0 that lasts to the last minute that can be booked, or beyond. */
  private static SlidePark bookedAt(int duration, int start) {
    SlidePark park = Scene.office(2, duration, 1, 1, 1);
    park.book(0, 0, start);
    return park;
  }

  @Says("Promise 27: Throws `NoSuchElementException` if there is no such minute up to the present "
      + "minute plus 120")
  static void firstFreeUpTo120MinutesAhead() {
    dueUpTo120("firstFree", (p, from) -> p.firstFree(0, from));
  }

  @Says("Promise 28: Throws `NoSuchElementException` if there is no such minute up to the present "
      + "minute plus 120")
  static void firstFreeByGapsUpTo120MinutesAhead() {
    dueUpTo120("firstFreeByGaps", (p, from) -> p.firstFreeByGaps(0, from));
  }

  private static void dueUpTo120(String what, Scene.ActAt act) {
    for (int duration = 1; duration <= 9; duration++) {
      for (int start = 120 - duration; start <= 120; start++) {
        int length = duration;
        int booked = start;
        Scene.Way way = () -> bookedAt(length, booked);
        String name = what + " of a ride of " + duration + " booked at " + start;
        Check.due(name, act.on(way.make(), start - duration), start - duration);
        if (start == 120 - duration) {
          Check.due(name, act.on(way.make(), start - duration + 1), 120);
          Check.due(name, act.on(way.make(), 120), 120);
        } else {
          Scene.refused(Check.NO_ELEMENT, name, way, p -> act.on(p, booked - length + 1));
          Scene.refused(Check.NO_ELEMENT, name, way, p -> act.on(p, 120));
          SlidePark later = way.make();
          later.passMinutes(start + duration - 120);
          Check.due(name + ", later", act.on(later, start - duration + 1), start + duration);
        }
      }
    }
  }
}
