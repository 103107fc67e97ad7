/** Promises 3, 15, 16, 42, 43 and 45: guests, and what is asked of them. */
public final class GuestsTest {
  public static void main(String[] args) {
    limitOfGuests();
    coins();
    orderByRides();
    meanCoins();
    Check.close("GuestsTest");
  }

  private static void limitOfGuests() {
    SlidePark park = new SlidePark();
    for (int i = 0; i < 10; i++) {
      Check.due("guestCount", park.guestCount(), i);
      Check.due("addGuest", park.addGuest(), i);
      Check.due("coins", park.coins(i), 50);
      Check.due("rides", park.rides(i), 0);
    }
    Check.dueThrowUnchanged(park, "an eleventh guest", Check.STATE, park::addGuest);
    Check.due("guestCount", park.guestCount(), 10);
  }

  private static void coins() {
    SlidePark park = new SlidePark();
    park.buildSlide(2, 7);
    park.addGuest();
    park.addGuest();
    park.book(1, 0, 5);
    Check.due("coins(0)", park.coins(0), 50);
    Check.due("coins(1)", park.coins(1), 43);
    park.cancel(0);
    Check.due("coins(1) after cancel", park.coins(1), 50);
    for (int guest : new int[] {-1, 2, 10, Integer.MIN_VALUE, Integer.MAX_VALUE}) {
      Check.dueThrow("coins", Check.INDEX, () -> park.coins(guest));
      Check.dueThrow("rides", Check.INDEX, () -> park.rides(guest));
    }
  }

  private static void orderByRides() {
    SlidePark park = new SlidePark();
    Check.dueThrow("guestByRides(0)", Check.NO_ELEMENT, () -> park.guestByRides(0));
    park.buildSlide(1, 5);
    park.buildSlide(1, 2);
    for (int i = 0; i < 4; i++) {
      park.addGuest();
    }
    dueOrder(park, 0, 1, 2, 3);
    park.book(0, 0, 40);
    dueOrder(park, 1, 2, 3, 0);
    park.book(2, 0, 0);
    park.book(3, 1, 0);
    Check.due("passMinutes", park.passMinutes(1), 2);
    dueOrder(park, 3, 2, 1, 0);
    park.book(2, 0, 1);
    park.book(1, 1, 1);
    park.passMinutes(1);
    Check.due("rides(0)", park.rides(0), 0);
    Check.due("rides(1)", park.rides(1), 1);
    Check.due("rides(2)", park.rides(2), 2);
    Check.due("rides(3)", park.rides(3), 1);
    dueOrder(park, 2, 1, 3, 0);
    for (int rank : new int[] {-1, 4, Integer.MIN_VALUE, Integer.MAX_VALUE}) {
      Check.dueThrow("guestByRides", Check.NO_ELEMENT, () -> park.guestByRides(rank));
    }
  }

  private static void dueOrder(SlidePark park, int... order) {
    for (int rank = 0; rank < order.length; rank++) {
      Check.due("guestByRides(" + rank + ")", park.guestByRides(rank), order[rank]);
    }
  }

  private static void meanCoins() {
    SlidePark park = new SlidePark();
    Check.dueThrow("meanCoins", Check.ARITHMETIC, park::meanCoins);
    park.addGuest();
    Check.due("meanCoins of one", park.meanCoins(), 50.0);
    park.addGuest();
    park.addGuest();
    park.buildSlide(1, 1);
    park.book(1, 0, 1);
    Check.due("meanCoins of three", park.meanCoins(), 149.0 / 3.0);
  }
}
