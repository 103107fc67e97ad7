/** Promises 29 to 32 and 47: bookings to watch and bookings at once, each counted in two ways. */
public final class WatchTest {
  public static void main(String[] args) {
    chainOfBookings();
    earliestStartIsNoGoodGuess();
    shortestIsNoGoodGuess();
    allAtOnce();
    endsAreNotPartOfARide();
    startedBookingsCount();
    twelve();
    Check.close("WatchTest");
  }

  private static SlidePark park(int... durations) {
    SlidePark park = new SlidePark();
    for (int duration : durations) {
      park.buildSlide(duration, 1);
    }
    for (int i = 0; i < 10; i++) {
      park.addGuest();
    }
    return park;
  }

  private static void due(SlidePark park, int watched, int atOnce) {
    Check.due("mostWatched", park.mostWatched(), watched);
    Check.due("mostWatchedByTable", park.mostWatchedByTable(), watched);
    Check.due("mostAtOnce", park.mostAtOnce(), atOnce);
    Check.due("mostAtOnceBySweep", park.mostAtOnceBySweep(), atOnce);
    Check.due("isConsistent", park.isConsistent(), true);
  }

  private static void chainOfBookings() {
    SlidePark park = park(4);
    due(park, 0, 0);
    park.book(0, 0, 8);
    due(park, 1, 1);
    park.book(1, 0, 0);
    park.book(2, 0, 4);
    due(park, 3, 1);
  }

  private static void earliestStartIsNoGoodGuess() {
    SlidePark park = park(9, 2);
    park.book(0, 0, 0);
    park.book(1, 1, 1);
    park.book(2, 1, 3);
    park.book(3, 1, 5);
    due(park, 3, 2);
  }

  private static void shortestIsNoGoodGuess() {
    SlidePark park = park(5, 2);
    park.book(0, 0, 0);
    park.book(1, 0, 5);
    park.book(2, 1, 4);
    due(park, 2, 2);
  }

  private static void allAtOnce() {
    SlidePark park = park(9, 7, 5, 3);
    park.book(0, 0, 20);
    park.book(1, 1, 21);
    park.book(2, 2, 22);
    due(park, 1, 3);
    park.book(3, 3, 26);
    due(park, 1, 4);
    park.cancel(3);
    park.book(3, 3, 27);
    due(park, 2, 3);
    park.cancel(3);
    park.book(3, 3, 29);
    due(park, 2, 3);
  }

  private static void endsAreNotPartOfARide() {
    SlidePark park = park(3, 3);
    park.book(0, 0, 0);
    park.book(1, 1, 3);
    due(park, 2, 1);
    park.book(2, 1, 0);
    due(park, 2, 2);
    SlidePark meeting = park(3, 3);
    meeting.book(0, 0, 0);
    meeting.book(1, 1, 2);
    due(meeting, 1, 2);
  }

  private static void startedBookingsCount() {
    SlidePark park = park(6, 2);
    park.book(0, 0, 0);
    park.book(1, 1, 4);
    park.passMinutes(3);
    due(park, 1, 2);
    park.book(2, 1, 6);
    due(park, 2, 2);
  }

  private static void twelve() {
    SlidePark park = park(1, 1, 1, 1);
    for (int i = 0; i < 12; i++) {
      park.book(i % 4, i % 4, 100 - i / 4);
    }
    due(park, 3, 4);
    SlidePark row = park(1);
    for (int i = 0; i < 12; i++) {
      row.book(0, 0, 30 - i);
    }
    due(row, 12, 1);
  }
}
