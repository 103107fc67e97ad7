/** Boundaries of the description of a slide: promises 52 and 53. */
final class OutputBounds {
  private OutputBounds() {
  }

  private static SlidePark slides(int count) {
    SlidePark park = Scene.fresh();
    for (int i = 0; i < count; i++) {
      park.buildSlide(4 + i, 3 + i);
    }
    return park;
  }

  @Says("Promise 52: Throws `IndexOutOfBoundsException` if there is no such slide")
  static void describeNoSlide() {
    for (int count = 0; count <= 4; count++) {
      int slides = count;
      Scene.onlyBelow(count, Check.INDEX, "writeSlide", () -> slides(slides),
          SlidePark::writeSlide);
    }
  }

  @Says("Promise 53: Throws `IndexOutOfBoundsException` if there is no such character")
  static void charactersOfTheOutput() {
    Scene.onlyBelow(0, Check.INDEX, "outputChar", SlidePark::new, SlidePark::outputChar);
    Scene.onlyBelow(6, Check.INDEX, "outputChar", Scene::fresh, SlidePark::outputChar);
    for (int count = 0; count <= 12; count++) {
      int bookings = count;
      Scene.onlyBelow(6 + 5 * count, Check.INDEX, "outputChar of " + count + " bookings",
          () -> written(bookings), SlidePark::outputChar);
    }
  }

  /** Described with so many bookings, 5 characters each. */
  private static SlidePark written(int bookings) {
    SlidePark park = Scene.office(2, 2, 1);
    for (int i = 0; i < bookings; i++) {
      park.book(i % 2, 0, 40 - 2 * i);
    }
    Check.due("writeSlide", park.writeSlide(0), 6 + 5 * bookings);
    return park;
  }

  @Says("Promise 53: The output is initially empty.")
  static void theOutputIsEmptyAtFirst() {
    SlidePark park = new SlidePark();
    park.buildSlide(1, 1);
    Check.dueThrow("outputChar(0)", Check.INDEX, () -> park.outputChar(0));
    Check.due("writeSlide", park.writeSlide(0), 6);
    Check.due("outputChar(0)", park.outputChar(0), '1');
  }

  @Says("Promise 52: Replaces the output by a description of a slide")
  static void aShorterOutputReplacesALongerOne() {
    SlidePark park = Scene.office(2, 4, 3, 9, 9);
    park.book(1, 0, 7);
    park.book(0, 0, 120);
    Check.due("output", Check.written(park, 0), "4m3c0w 1@7 0@120");
    Check.due("output", Check.written(park, 1), "9m9c0w");
    Check.dueThrow("outputChar(6)", Check.INDEX, () -> park.outputChar(6));
  }

  @Says("Promise 52: for each booking of it, in the order of the starts, a blank, the guest, \"@\" "
      + "and the start. An example is 4m3c2w 1@7 0@11.")
  static void bookingsInTheOrderOfTheStarts() {
    SlidePark park = Scene.office(10, 4, 3, 1, 1);
    park.book(8, 0, 0);
    park.book(9, 1, 5);
    park.book(0, 0, 11);
    park.book(1, 0, 7);
    park.book(9, 1, 50);
    Check.due("output", Check.written(park, 0), "4m3c0w 8@0 1@7 0@11");
    park.passMinutes(3);
    Check.due("output in the last minute", Check.written(park, 0), "4m3c0w 8@0 1@7 0@11");
    park.passMinutes(1);
    Check.due("output after the finish", Check.written(park, 0), "4m3c2w 1@7 0@11");
    Check.due("output", Check.written(park, 1), "1m1c0w 9@5 9@50");
  }

  @Says("Promise 52: in the order of the starts, a blank, the guest")
  static void fromNoBookingToTwelve() {
    for (int count = 0; count <= 12; count++) {
      SlidePark park = Scene.office(10, 9, 1, 1, 9);
      StringBuilder want = new StringBuilder("9m1c0w");
      for (int i = count - 1; i >= 0; i--) {
        park.book(i % 10, 0, 9 * i);
      }
      for (int i = 0; i < count; i++) {
        want.append(' ').append(i % 10).append('@').append(9 * i);
      }
      Check.due("output of " + count, Check.written(park, 0), want.toString());
      Check.due("output of the other slide", Check.written(park, 1), "1m9c0w");
    }
  }
}
