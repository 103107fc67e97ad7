/** Promises 8, 9 and 13, and the order in which things happen when a minute passes. */
public final class MinutesTest {
  public static void main(String[] args) {
    ranges();
    finishesAreCounted();
    queueBooksAtThePresentMinute();
    poorGuestLeaves();
    onlyTheFirstIsLookedAt();
    fullOfficeKeepsTheQueue();
    queuesAreServedInOrder();
    busyGuestOrSlideWaits();
    wetAndDry();
    splashesAndRefunds();
    Check.close("MinutesTest");
  }

  private static SlidePark park(int guests, int... durationsAndPrices) {
    SlidePark park = new SlidePark();
    for (int i = 0; i < durationsAndPrices.length; i += 2) {
      park.buildSlide(durationsAndPrices[i], durationsAndPrices[i + 1]);
    }
    for (int i = 0; i < guests; i++) {
      park.addGuest();
    }
    return park;
  }

  private static void ranges() {
    SlidePark park = park(1, 1, 1);
    for (int minutes : new int[] {0, -1, 61, Integer.MIN_VALUE, Integer.MAX_VALUE}) {
      Check.dueThrowUnchanged(park, "passMinutes(" + minutes + ")", Check.ARGUMENT,
          () -> park.passMinutes(minutes));
    }
    Check.due("passMinutes(1)", park.passMinutes(1), 0);
    Check.due("minute", park.minute(), 1);
    Check.due("passMinutes(60)", park.passMinutes(60), 0);
    Check.due("minute", park.minute(), 61);
    Check.due("undoCount", park.undoCount(), 4);
  }

  private static void finishesAreCounted() {
    SlidePark park = park(3, 1, 1, 3, 1);
    park.book(0, 0, 0);
    park.book(1, 1, 0);
    park.book(2, 0, 2);
    park.book(0, 1, 50);
    Check.due("first", park.passMinutes(1), 1);
    Check.due("second and third", park.passMinutes(2), 2);
    Check.due("finishMinute", park.finishMinute(0), 3);
    Check.due("none", park.passMinutes(49), 0);
    Check.due("fourth", park.passMinutes(60), 1);
    Check.due("minute", park.minute(), 112);
    Check.due("finishMinute", park.finishMinute(0), 53);
    Check.due("bookingCount", park.bookingCount(), 0);
  }

  private static void queueBooksAtThePresentMinute() {
    SlidePark park = park(2, 3, 4);
    park.joinQueue(1, 0);
    Check.due("nothing happens at once", park.bookingCount(), 0);
    Check.due("coins", park.coins(1), 50);
    Check.due("passMinutes", park.passMinutes(1), 0);
    Check.due("queueLength", park.queueLength(0), 0);
    Check.due("bookedGuest(0)", park.bookedGuest(0), 1);
    Check.due("start(0)", park.start(0), 0);
    Check.due("coins", park.coins(1), 46);
    Check.due("officeCoins", park.officeCoins(), 4);
    Check.due("passMinutes", park.passMinutes(2), 1);
    SlidePark quick = park(1, 1, 4);
    quick.joinQueue(0, 0);
    Check.due("booked and finished in one minute", quick.passMinutes(1), 1);
    Check.due("wetness of a slide that was ridden", quick.wetness(0), 2);
    Check.due("finishMinute", quick.finishMinute(0), 1);
  }

  private static void poorGuestLeaves() {
    SlidePark park = park(2, 1, 9, 1, 5, 1, 6);
    for (int i = 0; i < 5; i++) {
      park.book(0, 0, 50 + i);
    }
    park.joinQueue(0, 2);
    park.joinQueue(1, 2);
    park.passMinutes(1);
    Check.due("the poor guest has left, the next is not looked at", park.queueLength(2), 1);
    Check.due("queuedGuest", park.queuedGuest(2, 0), 1);
    Check.due("coins of the poor guest", park.coins(0), 5);
    Check.due("bookingCount", park.bookingCount(), 5);
    park.joinQueue(0, 1);
    park.passMinutes(1);
    Check.due("just enough coins", park.coins(0), 0);
    Check.due("both have ridden", park.finishCount(), 2);
  }

  private static void onlyTheFirstIsLookedAt() {
    SlidePark park = park(3, 1, 1, 4, 1);
    park.book(0, 1, 0);
    park.joinQueue(0, 0);
    park.joinQueue(1, 0);
    park.passMinutes(3);
    Check.due("the second waits behind the first, who is busy", park.queueLength(0), 2);
    park.passMinutes(1);
    Check.due("still", park.queueLength(0), 2);
    park.passMinutes(1);
    Check.due("the first has left", park.queuedGuest(0, 0), 1);
    Check.due("only one a minute", park.queueLength(0), 1);
  }

  private static void fullOfficeKeepsTheQueue() {
    SlidePark park = park(3, 1, 1, 1, 9);
    for (int i = 0; i < 12; i++) {
      park.book(0, 0, 2 + i);
    }
    park.joinQueue(1, 1);
    park.passMinutes(2);
    Check.due("12 bookings keep the guest waiting", park.queueLength(1), 1);
    Check.due("bookingCount", park.bookingCount(), 12);
    park.passMinutes(1);
    Check.due("a booking that finishes in this minute is no help yet", park.queueLength(1), 1);
    Check.due("bookingCount", park.bookingCount(), 11);
    park.passMinutes(1);
    Check.due("now there is room", park.queueLength(1), 0);
    Check.due("start of the ride", park.finishedSlide(0), 1);
    SlidePark poor = park(2, 1, 1, 1, 9);
    for (int i = 0; i < 5; i++) {
      poor.book(0, 1, 60 + i);
    }
    for (int i = 0; i < 7; i++) {
      poor.book(1, 0, 60 + i);
    }
    poor.joinQueue(0, 1);
    poor.passMinutes(1);
    Check.due("a poor guest leaves a full office too", poor.queueLength(1), 0);
  }

  private static void queuesAreServedInOrder() {
    SlidePark park = park(3, 1, 1, 1, 1);
    for (int i = 0; i < 11; i++) {
      park.book(0, 0, 60 + i);
    }
    park.joinQueue(2, 1);
    park.joinQueue(1, 0);
    park.passMinutes(1);
    Check.due("the slide with the lower index is served first", park.queueLength(0), 0);
    Check.due("then 12 bookings are reached", park.queueLength(1), 1);
    SlidePark two = park(3, 3, 1, 2, 1);
    two.joinQueue(2, 1);
    two.joinQueue(1, 0);
    two.passMinutes(1);
    Check.due("bookedSlide(0)", two.bookedSlide(0), 0);
    Check.due("bookedSlide(1)", two.bookedSlide(1), 1);
  }

  private static void busyGuestOrSlideWaits() {
    SlidePark park = park(3, 3, 1);
    park.book(1, 0, 2);
    park.joinQueue(0, 0);
    park.passMinutes(1);
    Check.due("a ride of 3 minutes would meet the booking", park.queueLength(0), 1);
    park.passMinutes(4);
    Check.due("the slide was busy", park.queueLength(0), 1);
    Check.due("minute", park.minute(), 5);
    park.passMinutes(1);
    Check.due("start of the ride", park.start(0), 5);
    SlidePark edge = park(2, 3, 1);
    edge.book(1, 0, 3);
    edge.joinQueue(0, 0);
    edge.passMinutes(1);
    Check.due("a ride that just fits in", edge.queueLength(0), 0);
  }

  private static void wetAndDry() {
    SlidePark park = park(2, 2, 1, 1, 1);
    park.book(0, 0, 0);
    park.passMinutes(1);
    Check.due("a slide in use does not dry and is not wet yet", park.wetness(0), 0);
    park.passMinutes(1);
    Check.due("wetter by 2 when the booking finishes", park.wetness(0), 2);
    Check.due("the other slide stays at 0", park.wetness(1), 0);
    park.passMinutes(1);
    Check.due("drier by 1", park.wetness(0), 1);
    park.book(0, 0, 3);
    park.passMinutes(1);
    Check.due("no drier while it is ridden", park.wetness(0), 1);
    park.passMinutes(1);
    Check.due("3", park.wetness(0), 3);
    park.passMinutes(2);
    Check.due("1", park.wetness(0), 1);
    park.passMinutes(2);
    Check.due("not below 0", park.wetness(0), 0);
    for (int i = 0; i < 5; i++) {
      park.book(1, 1, 9 + i);
    }
    int[] due = {2, 4, 6, 8, 9, 8, 7};
    for (int want : due) {
      park.passMinutes(1);
      Check.due("wetness in minute " + park.minute(), park.wetness(1), want);
    }
  }

  private static void splashesAndRefunds() {
    for (int price = 1; price <= 9; price++) {
      SlidePark park = park(1, 1, price);
      int rides = 50 / price < 5 ? 50 / price : 5;
      for (int i = 0; i < rides; i++) {
        park.book(0, 0, i);
      }
      // The wetness before the finishes is 0, 2, 4, 6 and 8: the last two splash.
      park.passMinutes(3);
      Check.due("no splash at wetness 4", park.splashes(), 0);
      Check.due("refundedCoins", park.refundedCoins(), 0);
      park.passMinutes(2);
      Check.due("splashes at price " + price, park.splashes(), 2);
      Check.due("refundedCoins", park.refundedCoins(), 2 * (price / 2));
      Check.due("officeCoins", park.officeCoins(), 5 * price - 2 * (price / 2));
      Check.due("coins", park.coins(0), 50 - 5 * price + 2 * (price / 2));
    }
    SlidePark five = park(1, 1, 4);
    int[] starts = {0, 1, 2, 4};
    for (int start : starts) {
      five.book(0, 0, start);
    }
    five.passMinutes(4);
    Check.due("wetness 5 before the ride", five.wetness(0), 5);
    five.passMinutes(1);
    Check.due("a splash at wetness 5", five.splashes(), 1);
    Check.due("wetness", five.wetness(0), 7);
  }
}
