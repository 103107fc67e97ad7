/** Boundaries of bookings: promises 4, 5 and 20 to 25. */
final class BookingBounds {
  private BookingBounds() {
  }

  /** The bookings of guest 0 are for the minutes 1, 2, 3 and so on; guest 1 has none. */
  private static SlidePark bookings(int count) {
    SlidePark park = Scene.office(2, 1, 1, 1, 9);
    for (int i = 0; i < count; i++) {
      park.book(0, 0, 1 + i);
    }
    return park;
  }

  private static void refusedBook(Class<?> want, Scene.Way way, int guest, int slide, int start) {
    Scene.refused(want, "book(" + guest + ", " + slide + ", " + start + ")", way,
        p -> p.book(guest, slide, start));
  }

  @Says({"Bookings: At most 12 bookings exist.", "Promise 20: Returns the number, 0 to 12.",
      "Promise 4: Throws `IllegalStateException` if there are 12 bookings"})
  static void twelveBookingsAndNoThirteenth() {
    SlidePark park = bookings(0);
    for (int i = 0; i < 12; i++) {
      Check.due("bookingCount", park.bookingCount(), i);
      Check.due("book", park.book(0, 0, 1 + i), i);
    }
    Check.due("bookingCount", park.bookingCount(), 12);
    refusedBook(Check.STATE, () -> bookings(12), 1, 1, 60);
    refusedBook(Check.STATE, () -> bookings(12), 1, 0, 0);
    park.cancel(11);
    Check.due("a twelfth again", park.book(1, 1, 60), 11);
  }

  @Says("Bookings: Their indices start at 0 and follow the order in which they were made; when a "
      + "booking ends, the indices of the later bookings decrease by 1.")
  static void laterIndicesDecreaseByOne() {
    for (int gone = 0; gone < 4; gone++) {
      SlidePark cancelled = bookings(0);
      SlidePark finished = bookings(0);
      for (int i = 0; i < 4; i++) {
        Check.due("book", cancelled.book(i % 2, 0, 40 - i), i);
        Check.due("book", finished.book(i % 2, 0, i == gone ? 5 : 40 - i), i);
      }
      cancelled.cancel(gone);
      finished.passMinutes(6);
      dueWithout(gone, cancelled);
      dueWithout(gone, finished);
    }
  }

  private static void dueWithout(int gone, SlidePark park) {
    Check.due("bookingCount", park.bookingCount(), 3);
    for (int i = 0; i < 3; i++) {
      int made = i < gone ? i : i + 1;
      Check.due("start(" + i + ")", park.start(i), 40 - made);
      Check.due("bookedGuest(" + i + ")", park.bookedGuest(i), made % 2);
    }
    Check.due("the next booking", park.book(1, 0, 90), 3);
  }

  @Says("Bookings: A booking is for a guest and a slide, and takes place in as many minutes as the "
      + "duration of the slide says, from its start on.")
  static void asManyMinutesAsTheDuration() {
    for (int duration = 1; duration <= 9; duration++) {
      SlidePark park = Scene.office(1, duration, 1);
      park.book(0, 0, 20);
      park.passMinutes(19);
      for (int minute = 19; minute <= 21 + duration; minute++) {
        boolean takesPlace = minute >= 20 && minute < 20 + duration;
        String what = " of a ride of " + duration + " in minute " + minute;
        Check.due("rider" + what, Check.outcome(() -> park.rider(0)),
            takesPlace ? 0 : "throws.NoSuchElementException");
        Check.due("bookingCount" + what, park.bookingCount(), minute < 20 + duration ? 1 : 0);
        park.passMinutes(1);
      }
      Check.due("finishMinute of a ride of " + duration, park.finishMinute(0), 20 + duration);
    }
  }

  @Says({"Bookings: Two bookings of the same slide never take place in the same minute",
      "Promise 4: Throws `UnsupportedOperationException` if the slide or the guest has another "
          + "booking in one of these minutes"})
  static void oneSlideOncePerMinute() {
    for (int duration = 1; duration <= 9; duration++) {
      int asked = duration;
      Scene.Way way = () -> {
        SlidePark park = Scene.office(2, asked, 1);
        park.book(0, 0, 20);
        return park;
      };
      for (int start = 21 - duration; start <= 19 + duration; start++) {
        refusedBook(Check.UNSUPPORTED, way, 1, 0, start);
      }
      Check.due("just before", way.make().book(1, 0, 20 - duration), 1);
      Check.due("just after", way.make().book(1, 0, 20 + duration), 1);
    }
  }

  @Says({"Bookings: nor do two bookings of the same guest.",
      "Promise 4: Throws `UnsupportedOperationException` if the slide or the guest has another "
          + "booking in one of these minutes"})
  static void oneGuestOncePerMinute() {
    int[][] pairs = {{1, 1}, {1, 9}, {9, 1}, {3, 4}, {9, 9}, {2, 3}};
    for (int[] pair : pairs) {
      Scene.Way way = () -> {
        SlidePark park = Scene.office(2, pair[0], 1, pair[1], 1);
        park.book(1, 0, 20);
        return park;
      };
      for (int start = 21 - pair[1]; start <= 19 + pair[0]; start++) {
        refusedBook(Check.UNSUPPORTED, way, 1, 1, start);
        Check.due("the other guest", way.make().book(0, 1, start), 1);
      }
      Check.due("just before", way.make().book(1, 1, 20 - pair[1]), 1);
      Check.due("just after", way.make().book(1, 1, 20 + pair[0]), 1);
    }
  }

  @Says("Promise 4: Throws `UnsupportedOperationException` if the slide or the guest has another "
      + "booking in one of these minutes")
  static void aRunningBookingIsInTheWayToItsLastMinute() {
    Scene.Way way = () -> {
      SlidePark park = Scene.office(2, 5, 1, 5, 1);
      park.book(0, 0, 0);
      park.passMinutes(3);
      return park;
    };
    for (int start = 3; start <= 4; start++) {
      refusedBook(Check.UNSUPPORTED, way, 1, 0, start);
      refusedBook(Check.UNSUPPORTED, way, 0, 1, start);
    }
    Check.due("the same slide just after", way.make().book(1, 0, 5), 1);
    Check.due("the same guest just after", way.make().book(0, 1, 5), 1);
  }

  @Says({"Bookings: A booking has started if its start is not later than the present minute.",
      "Promise 5: Throws `IllegalStateException` if the booking has started"})
  static void startedFromTheStartOn() {
    for (int passed = 0; passed <= 9; passed++) {
      int minutes = passed;
      Scene.Way way = () -> {
        SlidePark park = Scene.office(2, 9, 2);
        park.book(1, 0, 4);
        for (int i = 0; i < minutes; i++) {
          park.passMinutes(1);
        }
        return park;
      };
      Check.due("hasStarted in minute " + passed, way.make().hasStarted(0), passed >= 4);
      if (passed >= 4) {
        Scene.refused(Check.STATE, "cancel in minute " + passed, way, p -> p.cancel(0));
      } else {
        Check.due("cancel in minute " + passed, way.make().cancel(0), 50);
      }
    }
    SlidePark atOnce = bookings(0);
    atOnce.book(0, 0, 0);
    Check.due("hasStarted of a booking for the present minute", atOnce.hasStarted(0), true);
  }

  @Says({"Bookings: The guest pays the price of the slide to the office when the booking is made.",
      "Promise 4: or the guest has fewer coins than the price"})
  static void asManyCoinsAsThePriceAreEnough() {
    for (int price = 1; price <= 9; price++) {
      for (int coins = price - 1; coins <= price; coins++) {
        int asked = price;
        int left = coins;
        Scene.Way way = () -> guestWithCoins(left, asked);
        if (coins < price) {
          refusedBook(Check.STATE, way, 0, 2, 60);
          refusedBook(Check.STATE, way, 0, 2, 0);
        } else {
          SlidePark park = way.make();
          int office = park.officeCoins();
          Check.due("book", park.book(0, 2, 60), park.bookingCount() - 1);
          Check.due("coins(0)", park.coins(0), 0);
          Check.due("officeCoins", park.officeCoins(), office + price);
        }
      }
    }
  }

  /** Guest 0 has so many coins, 0 to 9, and the slide with index 2 has the price. */
  private static SlidePark guestWithCoins(int coins, int price) {
    int spent = 50 - coins;
    int last = spent % 9 == 0 ? 9 : spent % 9;
    SlidePark park = Scene.office(1, 1, 9, 1, last, 1, price);
    for (int i = 0; i < (spent - last) / 9; i++) {
      park.book(0, 0, 10 + i);
    }
    park.book(0, 1, 30);
    Check.due("coins of the scene", park.coins(0), coins);
    return park;
  }

  @Says("Promise 4: Throws `IndexOutOfBoundsException` if there is no such guest or slide")
  static void bookForNoGuestOrSlide() {
    for (int guests : new int[] {1, 2, 10}) {
      Scene.onlyBelow(guests, Check.INDEX, "book for guest", () -> Scene.office(guests, 1, 1),
          (p, guest) -> p.book(guest, 0, 0));
    }
    Scene.onlyBelow(1, Check.INDEX, "book for slide", () -> Scene.office(1, 1, 1),
        (p, slide) -> p.book(0, slide, 0));
    Scene.onlyBelow(4, Check.INDEX, "book for slide",
        () -> Scene.office(1, 1, 1, 1, 1, 1, 1, 1, 1), (p, slide) -> p.book(0, slide, 0));
    refusedBook(Check.INDEX, Scene::fresh, 0, 0, 0);
    refusedBook(Check.INDEX, () -> Scene.office(0, 1, 1), 0, 0, 0);
    refusedBook(Check.INDEX, () -> Scene.office(1), 0, 0, 0);
  }

  @Says({"Promise 4: `start`: the first minute, from the present minute to the present minute plus "
      + "120", "Promise 4: Throws `IllegalArgumentException` if the start is out of range"})
  static void startsUpTo120MinutesAhead() {
    for (int now : new int[] {0, 1, 59}) {
      Scene.Way way = () -> {
        SlidePark park = bookings(0);
        for (int i = 0; i < now; i++) {
          park.passMinutes(1);
        }
        return park;
      };
      Check.due("book for the present minute", way.make().book(1, 0, now), 0);
      Check.due("book for 120 minutes ahead", way.make().book(1, 0, now + 120), 0);
      refusedBook(Check.ARGUMENT, way, 1, 0, now - 1);
      refusedBook(Check.ARGUMENT, way, 1, 0, now + 121);
      for (int start : Scene.FAR_OUT) {
        refusedBook(Check.ARGUMENT, way, 1, 0, start);
      }
    }
  }

  @Says("Promise 5: Throws `IndexOutOfBoundsException` if there is no such booking")
  static void cancelNoBooking() {
    dueOnlyBookings("cancel", SlidePark::cancel);
  }

  @Says("Promise 5: Cancels a booking. The office pays the price back.")
  static void cancelPaysTheWholePriceBack() {
    for (int price = 1; price <= 9; price++) {
      SlidePark park = Scene.office(2, 3, price);
      park.book(1, 0, 1);
      Check.due("coins(1)", park.coins(1), 50 - price);
      Check.due("cancel", park.cancel(0), 50);
      Check.due("coins(1)", park.coins(1), 50);
      Check.due("officeCoins", park.officeCoins(), 0);
      Check.due("refundedCoins", park.refundedCoins(), price);
      Check.due("bookingCount", park.bookingCount(), 0);
    }
  }

  @Says("Promise 21: Throws `IndexOutOfBoundsException` if there is no such booking")
  static void guestOfNoBooking() {
    dueOnlyBookings("bookedGuest", SlidePark::bookedGuest);
  }

  @Says("Promise 22: Throws `IndexOutOfBoundsException` if there is no such booking")
  static void slideOfNoBooking() {
    dueOnlyBookings("bookedSlide", SlidePark::bookedSlide);
  }

  @Says("Promise 23: Throws `IndexOutOfBoundsException` if there is no such booking")
  static void startOfNoBooking() {
    dueOnlyBookings("start", SlidePark::start);
  }

  @Says("Promise 24: Throws `IndexOutOfBoundsException` if there is no such booking")
  static void startedOfNoBooking() {
    dueOnlyBookings("hasStarted", SlidePark::hasStarted);
  }

  private static void dueOnlyBookings(String what, Scene.ActAt act) {
    for (int count : new int[] {0, 1, 5, 12}) {
      Scene.onlyBelow(count, Check.INDEX, what, () -> bookings(count), act);
    }
    Scene.onlyBelow(2, Check.INDEX, what + " when one of three was cancelled", () -> {
      SlidePark park = bookings(3);
      park.cancel(1);
      return park;
    }, act);
  }

  @Says({"Promise 25: `rank`: the rank, counted from 0",
      "Promise 25: Throws `NoSuchElementException` if there is no such rank"})
  static void ranksOfBookings() {
    for (int count : new int[] {0, 1, 5, 12}) {
      Scene.onlyBelow(count, Check.NO_ELEMENT, "bookingByStart", () -> bookings(count),
          SlidePark::bookingByStart);
    }
  }

  @Says("Promise 25: sorted by start in ascending order, then by slide in ascending order.")
  static void bookingsOfOneStartBySlide() {
    SlidePark park = Scene.office(4, 2, 1, 2, 1, 2, 1, 2, 1);
    park.book(0, 3, 11);
    park.book(1, 1, 10);
    park.book(2, 2, 10);
    park.book(3, 0, 10);
    park.book(1, 0, 12);
    park.book(0, 3, 9);
    int[] order = {5, 3, 1, 2, 0, 4};
    for (int rank = 0; rank < order.length; rank++) {
      Check.due("bookingByStart(" + rank + ")", park.bookingByStart(rank), order[rank]);
    }
  }
}
