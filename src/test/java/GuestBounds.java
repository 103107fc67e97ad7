/** Boundaries of guests, of their coins and of their order. */
final class GuestBounds {
  private GuestBounds() {
  }

  private static Scene.Way guests(int count) {
    return () -> Scene.office(count, 1, 1, 2, 2);
  }

  @Says({"Guests: At most 10 guests exist.", "Promise 15: Returns the number, 0 to 10.",
      "Promise 3: Throws `IllegalStateException` if there are 10 guests"})
  static void tenGuestsAndNoEleventh() {
    SlidePark park = Scene.fresh();
    for (int i = 0; i < 10; i++) {
      Check.due("guestCount", park.guestCount(), i);
      Check.due("addGuest", park.addGuest(), i);
    }
    Check.due("guestCount", park.guestCount(), 10);
    Scene.refused(Check.STATE, "an eleventh guest", guests(10), SlidePark::addGuest);
  }

  @Says("Guests: Their indices start at 0, follow the order in which they came, and never change.")
  static void indicesOfGuestsNeverChange() {
    SlidePark park = Scene.office(3, 1, 1);
    park.book(0, 0, 0);
    park.book(2, 0, 1);
    park.joinQueue(1, 0);
    park.passMinutes(60);
    Check.due("a guest who comes later", park.addGuest(), 3);
    park.book(2, 0, 60);
    int[] coins = {49, 49, 48, 50};
    for (int guest = 0; guest < 4; guest++) {
      Check.due("coins(" + guest + ")", park.coins(guest), coins[guest]);
    }
  }

  @Says("Guests: A guest has coins, initially 50, and can wait in at most one queue.")
  static void coinsAreFiftyAtFirst() {
    SlidePark park = Scene.fresh();
    for (int guest = 0; guest < 10; guest++) {
      park.addGuest();
      Check.due("coins(" + guest + ")", park.coins(guest), 50);
    }
  }

  @Says({"Guests: and can wait in at most one queue.",
      "Promise 6: Throws `IllegalStateException` if the guest waits in a queue"})
  static void oneQueueAndNoSecond() {
    Scene.Way way = () -> {
      SlidePark park = Scene.office(3, 1, 1, 2, 2);
      park.joinQueue(2, 1);
      park.joinQueue(1, 1);
      return park;
    };
    for (int guest = 1; guest <= 2; guest++) {
      for (int slide = 0; slide <= 1; slide++) {
        int asked = guest;
        int other = slide;
        Scene.refused(Check.STATE, "joinQueue(" + guest + ", " + slide + ")", way,
            p -> p.joinQueue(asked, other));
      }
    }
    Check.due("a guest who does not wait", way.make().joinQueue(0, 1), 3);
    SlidePark left = way.make();
    left.leaveQueue(2);
    Check.due("a guest who has left", left.joinQueue(2, 0), 1);
    SlidePark booked = way.make();
    booked.passMinutes(1);
    Check.due("a guest whom the queue has booked", booked.joinQueue(2, 0), 1);
  }

  @Says("Promise 16: Throws `IndexOutOfBoundsException` if there is no such guest")
  static void coinsOfNoGuest() {
    for (int count : new int[] {0, 1, 3, 10}) {
      Scene.onlyBelow(count, Check.INDEX, "coins", guests(count), SlidePark::coins);
    }
  }

  @Says("Promise 42: Throws `IndexOutOfBoundsException` if there is no such guest")
  static void ridesOfNoGuest() {
    for (int count : new int[] {0, 1, 3, 10}) {
      Scene.onlyBelow(count, Check.INDEX, "rides", guests(count), SlidePark::rides);
    }
  }

  @Says("Promise 42: Returns how many bookings of a guest have finished so far.")
  static void ridesCountWhenTheyFinish() {
    SlidePark park = Scene.office(2, 2, 1);
    park.book(1, 0, 0);
    park.book(1, 0, 2);
    park.book(1, 0, 9);
    int[] rides = {0, 0, 1, 1, 2, 2};
    for (int want : rides) {
      Check.due("rides(1) in minute " + park.minute(), park.rides(1), want);
      Check.due("rides(0) in minute " + park.minute(), park.rides(0), 0);
      park.passMinutes(1);
    }
    park.cancel(0);
    park.passMinutes(60);
    Check.due("a cancelled booking is no ride", park.rides(1), 2);
  }

  @Says({"Promise 43: `rank`: the rank, counted from 0",
      "Promise 43: Throws `NoSuchElementException` if there is no such rank"})
  static void ranksOfGuests() {
    for (int count : new int[] {0, 1, 3, 10}) {
      Scene.onlyBelow(count, Check.NO_ELEMENT, "guestByRides", guests(count),
          SlidePark::guestByRides);
    }
  }

  @Says("Promise 43: sorted by finished bookings in descending order, then by coins in descending "
      + "order, then by index in ascending order.")
  static void guestsOfOneRankByCoinsThenIndex() {
    SlidePark park = Scene.office(5, 1, 1, 1, 9);
    dueOrder(park, 0, 1, 2, 3, 4);
    park.book(1, 0, 50);
    // One coin less puts guest 1 behind the others, who have made no ride either.
    dueOrder(park, 0, 2, 3, 4, 1);
    park.book(4, 1, 0);
    park.passMinutes(1);
    // One ride more is worth more than nine coins less.
    dueOrder(park, 4, 0, 2, 3, 1);
    park.book(3, 1, 1);
    park.passMinutes(1);
    dueOrder(park, 3, 4, 0, 2, 1);
    park.book(2, 0, 2);
    park.passMinutes(1);
    dueOrder(park, 2, 3, 4, 0, 1);
  }

  private static void dueOrder(SlidePark park, int... order) {
    for (int rank = 0; rank < order.length; rank++) {
      Check.due("guestByRides(" + rank + ") in minute " + park.minute(), park.guestByRides(rank),
          order[rank]);
    }
  }

  @Says("Promise 45: Throws `ArithmeticException` if there are no guests")
  static void meanCoinsOfNoGuests() {
    Scene.refused(Check.ARITHMETIC, "meanCoins", guests(0), SlidePark::meanCoins);
    for (int count = 1; count <= 10; count++) {
      SlidePark park = guests(count).make();
      Check.due("meanCoins of " + count, park.meanCoins(), 50.0);
      park.book(count - 1, 0, 0);
      Check.due("meanCoins of " + count, park.meanCoins(), (50.0 * count - 1) / count);
    }
  }
}
