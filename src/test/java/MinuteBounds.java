/** Boundaries of what happens when a minute passes, but for the wetness: promises 8 and 9. */
final class MinuteBounds {
  private MinuteBounds() {
  }

  @Says({"Minutes: Second, the present minute increases by 1.",
      "Promise 8: `minutes`: the number of minutes, 1 to 60",
      "Promise 8: Throws `IllegalArgumentException` if the number of minutes is out of range"})
  static void passOneToSixtyMinutes() {
    for (int minutes = 1; minutes <= 60; minutes++) {
      SlidePark park = Scene.office(1, 1, 1);
      Check.due("passMinutes(" + minutes + ")", park.passMinutes(minutes), 0);
      Check.due("minute", park.minute(), minutes);
    }
    Scene.Way way = () -> Scene.office(2, 1, 1);
    Scene.refused(Check.ARGUMENT, "passMinutes(0)", way, p -> p.passMinutes(0));
    Scene.refused(Check.ARGUMENT, "passMinutes(61)", way, p -> p.passMinutes(61));
    for (int minutes : Scene.FAR_OUT) {
      Scene.refused(Check.ARGUMENT, "passMinutes(" + minutes + ")", way,
          p -> p.passMinutes(minutes));
    }
  }

  @Says("Minutes: When a minute passes, the following happens in this order.")
  static void theFourStepsInTheirOrder() {
    SlidePark park = Scene.office(4, 2, 1, 2, 1);
    park.book(0, 0, 0);
    park.passMinutes(2);
    Check.due("wetness", park.wetness(0), 2);
    park.joinQueue(1, 0);
    park.book(2, 1, 1 + park.minute());
    park.passMinutes(1);
    Check.due("the queue books for the minute that passes", park.start(1), 2);
    Check.due("and so the slide is no drier", park.wetness(0), 2);
    Check.due("passMinutes", park.passMinutes(1), 1);
    Check.due("a finish is of the minute after the last one", park.finishMinute(0), 4);
    Check.due("no drier, then wetter", park.wetness(0), 4);
  }

  /** A guest waits for slide 1 with the price, and has so many coins. */
  private static SlidePark waitingWithCoins(int coins, int price) {
    int spent = 50 - coins;
    int last = spent % 9 == 0 ? 9 : spent % 9;
    SlidePark park = Scene.office(2, 1, 9, 1, price, 1, last);
    for (int i = 0; i < (spent - last) / 9; i++) {
      park.book(0, 0, 60 + i);
    }
    park.book(0, 2, 90);
    Check.due("coins of the scene", park.coins(0), coins);
    park.joinQueue(0, 1);
    return park;
  }

  @Says("Minutes: if the first guest has fewer coins than the price, the guest leaves the queue")
  static void aQueueGuestNeedsThePrice() {
    for (int price = 1; price <= 9; price++) {
      SlidePark poor = waitingWithCoins(price - 1, price);
      int bookings = poor.bookingCount();
      Check.due("passMinutes", poor.passMinutes(1), 0);
      Check.due("the poor guest has left", poor.queueLength(1), 0);
      Check.due("without a booking", poor.bookingCount(), bookings);
      Check.due("and without paying", poor.coins(0), price - 1);
      SlidePark able = waitingWithCoins(price, price);
      Check.due("the guest with the price rides", able.passMinutes(1), 1);
      Check.due("queueLength", able.queueLength(1), 0);
      Check.due("finishedSlide", able.finishedSlide(0), 1);
      Check.due("coins", able.coins(0), 0);
      Check.due("officeCoins", able.officeCoins(), 50);
    }
  }

  /** Guest 1 waits for slide 1 while guest 0 has so many bookings from minute 60 on. */
  private static SlidePark waitingBesideBookings(int count) {
    SlidePark park = Scene.office(3, 1, 1, 2, 9);
    for (int i = 0; i < count; i++) {
      park.book(0, 0, 60 + i);
    }
    park.joinQueue(1, 1);
    return park;
  }

  @Says("Minutes: otherwise, if there are fewer than 12 bookings")
  static void theQueueMakesATwelfthBookingAndNoThirteenth() {
    SlidePark eleven = waitingBesideBookings(11);
    eleven.passMinutes(1);
    Check.due("bookingCount", eleven.bookingCount(), 12);
    Check.due("queueLength", eleven.queueLength(1), 0);
    Check.due("bookedGuest(11)", eleven.bookedGuest(11), 1);
    Check.due("bookedSlide(11)", eleven.bookedSlide(11), 1);
    Check.due("start(11)", eleven.start(11), 0);
    SlidePark twelve = waitingBesideBookings(12);
    twelve.passMinutes(10);
    Check.due("bookingCount", twelve.bookingCount(), 12);
    Check.due("queueLength", twelve.queueLength(1), 1);
    Check.due("coins(1)", twelve.coins(1), 50);
    twelve.cancel(0);
    twelve.passMinutes(1);
    Check.due("queueLength when there is room", twelve.queueLength(1), 0);
    Check.due("start(11)", twelve.start(11), 10);
  }

  @Says("Minutes: if the first guest has fewer coins than the price, the guest leaves the queue; "
      + "otherwise, if there are fewer than 12 bookings")
  static void aPoorGuestLeavesBesideTwelveBookings() {
    SlidePark park = Scene.office(2, 1, 9, 1, 5, 1, 6, 1, 1);
    for (int i = 0; i < 5; i++) {
      park.book(0, 0, 60 + i);
    }
    for (int i = 0; i < 7; i++) {
      park.book(1, 3, 70 + i);
    }
    park.joinQueue(0, 2);
    park.passMinutes(1);
    Check.due("with 5 coins for a price of 6 the guest leaves", park.queueLength(2), 0);
    park.joinQueue(0, 1);
    park.passMinutes(1);
    Check.due("with 5 coins for a price of 5 the guest waits", park.queueLength(1), 1);
    Check.due("bookingCount", park.bookingCount(), 12);
  }

  @Says("Minutes: and the slide and this guest could be booked from the present minute on")
  static void theSlideMustBeFreeForTheWholeRide() {
    for (int duration = 1; duration <= 9; duration++) {
      for (int start = 1; start <= duration + 1; start++) {
        SlidePark park = Scene.office(2, duration, 1);
        park.book(1, 0, start);
        park.joinQueue(0, 0);
        park.passMinutes(1);
        Check.due("queueLength for a ride of " + duration + " before a booking from " + start,
            park.queueLength(0), start < duration ? 1 : 0);
      }
      SlidePark running = Scene.office(2, duration, 1);
      running.book(1, 0, 0);
      running.joinQueue(0, 0);
      for (int minute = 0; minute < duration; minute++) {
        running.passMinutes(1);
        Check.due("queueLength beside a running ride", running.queueLength(0), 1);
      }
      running.passMinutes(1);
      Check.due("queueLength after the ride of " + duration, running.queueLength(0), 0);
    }
  }

  @Says("Minutes: and the slide and this guest could be booked from the present minute on")
  static void theGuestMustBeFreeForTheWholeRide() {
    for (int duration = 1; duration <= 9; duration++) {
      for (int start = 1; start <= duration + 1; start++) {
        SlidePark park = Scene.office(2, duration, 1, 4, 1);
        park.book(0, 1, start);
        park.joinQueue(0, 0);
        park.passMinutes(1);
        Check.due("queueLength for a ride of " + duration + " before a booking from " + start,
            park.queueLength(0), start < duration ? 1 : 0);
      }
      SlidePark running = Scene.office(2, 3, 1, duration, 1);
      running.book(0, 1, 0);
      running.joinQueue(0, 0);
      for (int minute = 0; minute < duration; minute++) {
        running.passMinutes(1);
        Check.due("queueLength beside a running ride", running.queueLength(0), 1);
      }
      running.passMinutes(1);
      Check.due("queueLength after the ride of " + duration, running.queueLength(0), 0);
    }
  }

  @Says("Minutes: First, for each slide in the order of the indices, if its queue is not empty")
  static void slidesInTheOrderOfTheIndices() {
    SlidePark park = Scene.office(9, 2, 1, 2, 1, 2, 1, 2, 1);
    for (int i = 0; i < 9; i++) {
      park.book(8, 0, 60 + 2 * i);
    }
    for (int slide = 3; slide >= 0; slide--) {
      park.joinQueue(slide, slide);
    }
    park.passMinutes(1);
    int[] lengths = {0, 0, 0, 1};
    for (int slide = 0; slide < 4; slide++) {
      Check.due("queueLength(" + slide + ")", park.queueLength(slide), lengths[slide]);
    }
    for (int booking = 9; booking < 12; booking++) {
      Check.due("bookedSlide(" + booking + ")", park.bookedSlide(booking), booking - 9);
    }
    SlidePark empty = Scene.office(1, 1, 1, 1, 1);
    Check.due("passMinutes with empty queues", empty.passMinutes(60), 0);
    Check.due("bookingCount", empty.bookingCount(), 0);
  }

  @Says("Minutes: No other guest of this queue is looked at in this minute.")
  static void onlyTheFirstGuestIsLookedAt() {
    SlidePark poor = waitingWithCoins(2, 3);
    poor.joinQueue(1, 1);
    poor.passMinutes(1);
    Check.due("behind a poor guest", poor.queuedGuest(1, 0), 1);
    Check.due("finishCount", poor.finishCount(), 0);
    poor.passMinutes(1);
    Check.due("one minute later", poor.queueLength(1), 0);
    SlidePark rides = Scene.office(2, 1, 1);
    rides.joinQueue(0, 0);
    rides.joinQueue(1, 0);
    Check.due("one guest a minute", rides.passMinutes(1), 1);
    Check.due("behind a guest who rides", rides.queuedGuest(0, 0), 1);
    SlidePark busy = Scene.office(2, 1, 1, 3, 1);
    busy.book(0, 1, 0);
    busy.joinQueue(0, 0);
    busy.joinQueue(1, 0);
    busy.passMinutes(3);
    Check.due("behind a guest who is busy", busy.queueLength(0), 2);
    busy.passMinutes(1);
    Check.due("when that guest rides", busy.queueLength(0), 1);
    SlidePark twoPoor = waitingWithCoins(2, 3);
    for (int i = 0; i < 5; i++) {
      twoPoor.book(1, 0, 100 + i);
    }
    twoPoor.book(1, 1, 110);
    twoPoor.joinQueue(1, 1);
    Check.due("coins(1)", twoPoor.coins(1), 2);
    twoPoor.passMinutes(1);
    Check.due("one poor guest a minute", twoPoor.queueLength(1), 1);
  }

  @Says({"Minutes: Fourth, each booking whose last minute has passed finishes",
      "Promise 8: Returns the number of bookings that finish."})
  static void finishesWhenTheLastMinuteHasPassed() {
    for (int duration = 1; duration <= 9; duration++) {
      SlidePark early = Scene.office(1, duration, 1);
      early.book(0, 0, 2);
      Check.due("before the last minute", early.passMinutes(1 + duration), 0);
      Check.due("bookingCount", early.bookingCount(), 1);
      Check.due("rides", early.rides(0), 0);
      Check.due("the last minute", early.passMinutes(1), 1);
      Check.due("bookingCount", early.bookingCount(), 0);
      Check.due("rides", early.rides(0), 1);
      Check.due("after it", early.passMinutes(60), 0);
      Check.due("finishMinute", early.finishMinute(0), 2 + duration);
    }
    SlidePark all = Scene.office(4, 1, 1, 1, 1, 1, 1, 1, 1);
    for (int i = 0; i < 12; i++) {
      all.book(i % 4, i % 4, i / 4);
    }
    Check.due("the first four", all.passMinutes(1), 4);
    Check.due("the other eight", all.passMinutes(60), 8);
  }

  @Says("Minutes: finishes, in the order of the indices")
  static void finishesInTheOrderOfTheIndices() {
    SlidePark park = Scene.office(4, 4, 1, 3, 1, 2, 1, 1, 1);
    park.book(3, 3, 3);
    park.book(1, 1, 1);
    park.book(0, 2, 2);
    park.book(2, 0, 0);
    Check.due("passMinutes", park.passMinutes(4), 4);
    int[] guests = {2, 0, 1, 3};
    for (int back = 0; back < 4; back++) {
      Check.due("finishedGuest(" + back + ")", park.finishedGuest(back), guests[back]);
      Check.due("finishMinute(" + back + ")", park.finishMinute(back), 4);
    }
  }
}
