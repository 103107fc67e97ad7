/** Boundaries of counting bookings to watch and bookings at once: promises 29 to 32 and 47. */
final class WatchBounds {
  private WatchBounds() {
  }

  private static void dueWatched(SlidePark park, int want) {
    Check.due("mostWatched", park.mostWatched(), want);
    Check.due("mostWatchedByTable", park.mostWatchedByTable(), want);
    Check.due("isConsistent", park.isConsistent(), true);
  }

  private static void dueAtOnce(SlidePark park, int want) {
    Check.due("mostAtOnce", park.mostAtOnce(), want);
    Check.due("mostAtOnceBySweep", park.mostAtOnceBySweep(), want);
    Check.due("isConsistent", park.isConsistent(), true);
  }

  @Says({"Promise 29: of which no two take place in the same minute",
      "Promise 30: Returns the same number as mostWatched"})
  static void aBookingMayStartWhenAnotherEnds() {
    for (int duration = 1; duration <= 9; duration++) {
      for (int start = 20; start <= 21 + duration; start++) {
        SlidePark park = Scene.office(2, duration, 1, 4, 1);
        park.book(0, 0, 20);
        park.book(1, 1, start);
        dueWatched(park, start >= 20 + duration ? 2 : 1);
        SlidePark turned = Scene.office(2, 4, 1, duration, 1);
        turned.book(1, 0, start);
        turned.book(0, 1, 20);
        dueWatched(turned, start >= 20 + duration ? 2 : 1);
      }
    }
  }

  @Says({"Promise 29: Returns the greatest number of bookings",
      "Promise 30: found with a table of the longest chain that ends with each booking."})
  static void fromNoBookingToTwelve() {
    SlidePark row = Scene.office(2, 2, 1, 9, 1);
    dueWatched(row, 0);
    dueAtOnce(row, 0);
    for (int i = 1; i <= 12; i++) {
      row.book(0, 0, 40 - 2 * i);
      dueWatched(row, i);
      dueAtOnce(row, 1);
    }
    row.cancel(11);
    row.book(1, 1, 17);
    dueWatched(row, 11);
    row.cancel(11);
    row.book(1, 1, 38);
    dueWatched(row, 11);
    dueAtOnce(row, 2);
    row.cancel(11);
    row.book(1, 1, 40);
    dueWatched(row, 12);
    dueAtOnce(row, 1);
  }

  @Says("Promise 29: found by taking bookings that finish earlier first.")
  static void theEarlierFinishNotTheEarlierStartNorTheShorterRide() {
    SlidePark starts = Scene.office(3, 9, 1, 2, 1);
    starts.book(0, 0, 0);
    starts.book(1, 1, 1);
    starts.book(2, 1, 7);
    dueWatched(starts, 2);
    SlidePark shorter = Scene.office(3, 5, 1, 2, 1);
    shorter.book(0, 0, 0);
    shorter.book(1, 0, 5);
    shorter.book(2, 1, 4);
    dueWatched(shorter, 2);
    SlidePark startedNow = Scene.office(3, 9, 1, 2, 1);
    startedNow.book(0, 0, 0);
    startedNow.book(1, 1, 9);
    startedNow.passMinutes(8);
    dueWatched(startedNow, 2);
    startedNow.book(2, 1, 11);
    dueWatched(startedNow, 3);
    startedNow.passMinutes(1);
    dueWatched(startedNow, 2);
  }

  @Says({"Promise 31: Returns the greatest number of bookings that take place in the same minute",
      "Promise 32: Returns the same number as mostAtOnce, found by adding up starts and ends in "
          + "the order of time."})
  static void atOnceInOneMinuteAtLeast() {
    for (int duration = 1; duration <= 9; duration++) {
      for (int start = 15; start <= 21 + duration; start++) {
        SlidePark park = Scene.office(2, duration, 1, 4, 1);
        park.book(0, 0, 20);
        park.book(1, 1, start);
        dueAtOnce(park, start > 16 && start < 20 + duration ? 2 : 1);
      }
    }
    SlidePark four = Scene.office(4, 4, 1, 4, 1, 4, 1, 4, 1);
    four.book(0, 0, 10);
    four.book(1, 1, 11);
    four.book(2, 2, 12);
    dueAtOnce(four, 3);
    four.book(3, 3, 13);
    dueAtOnce(four, 4);
    four.cancel(3);
    four.book(3, 3, 14);
    dueAtOnce(four, 3);
    four.book(3, 3, 6);
    dueAtOnce(four, 3);
    int[] due = {3, 3, 3, 2, 1, 1, 0};
    four.passMinutes(11);
    for (int want : due) {
      four.passMinutes(1);
      dueAtOnce(four, want);
    }
  }

  @Says({"Promise 31: found by counting for the start of each booking.",
      "Promise 32: found by adding up starts and ends in the order of time."})
  static void theMostMayStandFirstOrLastOfTwelve() {
    for (int doubled = 0; doubled <= 10; doubled++) {
      SlidePark park = Scene.office(2, 2, 1, 1, 1);
      for (int i = 0; i <= 10; i++) {
        park.book(0, 0, 20 + 3 * i);
      }
      dueAtOnce(park, 1);
      park.book(1, 1, 22 + 3 * doubled);
      dueAtOnce(park, 1);
      park.cancel(11);
      park.book(1, 1, 21 + 3 * doubled);
      dueAtOnce(park, 2);
    }
  }

  @Says("Promise 47: the coins of all guests and of the office are together 50 for each guest, and "
      + "both ways agree to compute mostWatched, mostAtOnce and photoFinishes.")
  static void consistentFromNoGuestToTen() {
    SlidePark park = Scene.fresh();
    Check.due("isConsistent", park.isConsistent(), true);
    park.buildSlide(1, 9);
    park.buildSlide(3, 7);
    for (int guest = 0; guest < 10; guest++) {
      park.addGuest();
      Check.due("isConsistent", park.isConsistent(), true);
      park.book(guest, guest % 2, park.minute());
      park.passMinutes(1 + guest % 2);
      Check.due("isConsistent", park.isConsistent(), true);
    }
    for (int guest = 0; guest < 5; guest++) {
      park.joinQueue(guest, 0);
    }
    park.passMinutes(9);
    int coins = park.officeCoins();
    for (int guest = 0; guest < 10; guest++) {
      coins += park.coins(guest);
    }
    Check.due("all coins", coins, 500);
    Check.due("isConsistent", park.isConsistent(), true);
  }
}
