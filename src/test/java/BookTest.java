/** Promises 4, 5 and 20 to 25: making and cancelling bookings, and what is asked of them. */
public final class BookTest {
  public static void main(String[] args) {
    wrongIndicesAndStarts();
    startsMoveWithTime();
    limitOfBookings();
    tooFewCoins();
    otherBookings();
    orderOfExceptions();
    cancel();
    facts();
    orderByStart();
    Check.close("BookTest");
  }

  private static SlidePark park(int slides, int duration, int price, int guests) {
    SlidePark park = new SlidePark();
    for (int i = 0; i < slides; i++) {
      park.buildSlide(duration, price);
    }
    for (int i = 0; i < guests; i++) {
      park.addGuest();
    }
    return park;
  }

  private static void dueWrong(SlidePark park, Class<?> want, int guest, int slide, int start) {
    Check.dueThrowUnchanged(park, "book(" + guest + ", " + slide + ", " + start + ")", want,
        () -> park.book(guest, slide, start));
  }

  private static void wrongIndicesAndStarts() {
    SlidePark park = park(2, 3, 4, 3);
    for (int index : new int[] {-1, Integer.MIN_VALUE, Integer.MAX_VALUE}) {
      dueWrong(park, Check.INDEX, index, 0, 0);
      dueWrong(park, Check.INDEX, 0, index, 0);
    }
    dueWrong(park, Check.INDEX, 3, 0, 0);
    dueWrong(park, Check.INDEX, 0, 2, 0);
    dueWrong(park, Check.INDEX, 3, 0, -1);
    for (int start : new int[] {-1, 121, Integer.MIN_VALUE, Integer.MAX_VALUE}) {
      dueWrong(park, Check.ARGUMENT, 0, 0, start);
    }
    Check.due("book at the first minute", park.book(0, 0, 0), 0);
    Check.due("book at the last minute", park.book(0, 0, 120), 1);
    Check.due("officeCoins", park.officeCoins(), 8);
    Check.due("coins(0)", park.coins(0), 42);
    Check.due("undoCount", park.undoCount(), 7);
  }

  private static void startsMoveWithTime() {
    SlidePark park = park(1, 1, 1, 1);
    park.passMinutes(60);
    park.passMinutes(7);
    dueWrong(park, Check.ARGUMENT, 0, 0, 66);
    dueWrong(park, Check.ARGUMENT, 0, 0, 188);
    dueWrong(park, Check.ARGUMENT, 0, 0, 0);
    Check.due("book(67)", park.book(0, 0, 67), 0);
    Check.due("book(187)", park.book(0, 0, 187), 1);
  }

  private static void limitOfBookings() {
    SlidePark park = park(1, 1, 1, 2);
    for (int i = 0; i < 12; i++) {
      Check.due("bookingCount", park.bookingCount(), i);
      Check.due("book", park.book(0, 0, 1 + i), i);
    }
    dueWrong(park, Check.STATE, 1, 0, 50);
    dueWrong(park, Check.STATE, 1, 0, 1);
    dueWrong(park, Check.ARGUMENT, 1, 0, 121);
    park.cancel(3);
    Check.due("book when one was cancelled", park.book(1, 0, 50), 11);
  }

  private static void tooFewCoins() {
    SlidePark park = park(1, 1, 9, 1);
    park.buildSlide(1, 5);
    park.buildSlide(1, 6);
    for (int i = 0; i < 5; i++) {
      park.book(0, 0, i);
    }
    Check.due("coins", park.coins(0), 5);
    dueWrong(park, Check.STATE, 0, 2, 10);
    dueWrong(park, Check.STATE, 0, 2, 0);
    Check.due("just enough coins", park.book(0, 1, 10), 5);
    Check.due("coins", park.coins(0), 0);
    Check.due("officeCoins", park.officeCoins(), 50);
    dueWrong(park, Check.STATE, 0, 1, 20);
  }

  private static void otherBookings() {
    SlidePark park = park(2, 4, 1, 3);
    park.buildSlide(1, 1);
    park.book(0, 0, 10);
    for (int start = 7; start <= 13; start++) {
      dueWrong(park, Check.UNSUPPORTED, 1, 0, start);
      dueWrong(park, Check.UNSUPPORTED, 0, 1, start);
    }
    for (int start = 10; start <= 13; start++) {
      dueWrong(park, Check.UNSUPPORTED, 0, 2, start);
    }
    Check.due("the other guest and slide", park.book(1, 1, 10), 1);
    Check.due("same slide before", park.book(2, 0, 6), 2);
    Check.due("same slide after", park.book(2, 0, 14), 3);
    Check.due("same guest before", park.book(0, 1, 6), 4);
    Check.due("same guest after", park.book(0, 1, 14), 5);
    Check.due("short ride before", park.book(1, 2, 9), 6);
  }

  private static void orderOfExceptions() {
    SlidePark park = park(1, 2, 9, 1);
    for (int i = 0; i < 5; i++) {
      park.book(0, 0, 2 * i);
    }
    dueWrong(park, Check.INDEX, 1, 0, -1);
    dueWrong(park, Check.INDEX, 0, 1, 121);
    dueWrong(park, Check.ARGUMENT, 0, 0, -1);
    dueWrong(park, Check.STATE, 0, 0, 0);
  }

  private static void cancel() {
    SlidePark park = park(2, 2, 6, 2);
    park.book(0, 0, 0);
    park.book(0, 0, 5);
    park.book(1, 1, 5);
    park.book(1, 0, 9);
    for (int booking : new int[] {-1, 4, Integer.MIN_VALUE, Integer.MAX_VALUE}) {
      Check.dueThrowUnchanged(park, "cancel(" + booking + ")", Check.INDEX,
          () -> park.cancel(booking));
    }
    Check.dueThrowUnchanged(park, "cancel(0)", Check.STATE, () -> park.cancel(0));
    Check.due("cancel(1)", park.cancel(1), 44);
    Check.due("officeCoins", park.officeCoins(), 18);
    Check.due("refundedCoins", park.refundedCoins(), 6);
    Check.due("bookingCount", park.bookingCount(), 3);
    Check.due("bookedGuest(1)", park.bookedGuest(1), 1);
    Check.due("bookedSlide(1)", park.bookedSlide(1), 1);
    Check.due("start(1)", park.start(1), 5);
    Check.due("start(2)", park.start(2), 9);
    Check.due("bookedSlide(2)", park.bookedSlide(2), 0);
    park.passMinutes(4);
    Check.due("the minute before the start", park.cancel(0), 44);
    park.passMinutes(5);
    Check.dueThrowUnchanged(park, "cancel at the start", Check.STATE, () -> park.cancel(0));
    Check.due("refundedCoins", park.refundedCoins(), 12);
    Check.due("splashes", park.splashes(), 0);
    Check.due("the slide is free again", park.book(1, 1, 9 + 2), 1);
  }

  private static void facts() {
    SlidePark park = park(2, 3, 1, 2);
    park.book(1, 0, 2);
    park.book(0, 1, 4);
    Check.due("bookedGuest(0)", park.bookedGuest(0), 1);
    Check.due("bookedGuest(1)", park.bookedGuest(1), 0);
    Check.due("bookedSlide(0)", park.bookedSlide(0), 0);
    Check.due("bookedSlide(1)", park.bookedSlide(1), 1);
    Check.due("start(0)", park.start(0), 2);
    Check.due("start(1)", park.start(1), 4);
    Check.due("hasStarted(0)", park.hasStarted(0), false);
    park.passMinutes(1);
    Check.due("hasStarted(0) in minute 1", park.hasStarted(0), false);
    park.passMinutes(1);
    Check.due("hasStarted(0) in minute 2", park.hasStarted(0), true);
    Check.due("hasStarted(1) in minute 2", park.hasStarted(1), false);
    park.passMinutes(1);
    Check.due("hasStarted(0) in minute 3", park.hasStarted(0), true);
    park.passMinutes(2);
    Check.due("bookingCount after a finish", park.bookingCount(), 1);
    Check.due("start(0) has moved down", park.start(0), 4);
    Check.due("bookedGuest(0) has moved down", park.bookedGuest(0), 0);
    for (int booking : new int[] {-1, 1, 12, Integer.MIN_VALUE, Integer.MAX_VALUE}) {
      Check.dueThrow("bookedGuest", Check.INDEX, () -> park.bookedGuest(booking));
      Check.dueThrow("bookedSlide", Check.INDEX, () -> park.bookedSlide(booking));
      Check.dueThrow("start", Check.INDEX, () -> park.start(booking));
      Check.dueThrow("hasStarted", Check.INDEX, () -> park.hasStarted(booking));
    }
  }

  private static void orderByStart() {
    SlidePark park = park(3, 2, 1, 4);
    park.book(0, 2, 5);
    park.book(1, 0, 7);
    park.book(2, 1, 5);
    park.book(3, 0, 5);
    park.book(0, 1, 1);
    int[] order = {4, 3, 2, 0, 1};
    for (int rank = 0; rank < order.length; rank++) {
      Check.due("bookingByStart(" + rank + ")", park.bookingByStart(rank), order[rank]);
    }
    for (int rank : new int[] {-1, 5, 12, Integer.MIN_VALUE, Integer.MAX_VALUE}) {
      Check.dueThrow("bookingByStart", Check.NO_ELEMENT, () -> park.bookingByStart(rank));
    }
  }
}
