/** Promises 33 to 41: kept finishes, photo finishes, splashes and the office's coins. */
public final class FinishTest {
  public static void main(String[] args) {
    finishesInOrder();
    onlySixteenAreKept();
    photoFinishes();
    photosOfKeptFinishesOnly();
    coinsOfTheOffice();
    Check.close("FinishTest");
  }

  private static SlidePark park(int guests, int... durations) {
    SlidePark park = new SlidePark();
    for (int duration : durations) {
      park.buildSlide(duration, 1);
    }
    for (int i = 0; i < guests; i++) {
      park.addGuest();
    }
    return park;
  }

  private static void dueFinish(SlidePark park, int back, int guest, int slide, int minute) {
    Check.due("finishedGuest(" + back + ")", park.finishedGuest(back), guest);
    Check.due("finishedSlide(" + back + ")", park.finishedSlide(back), slide);
    Check.due("finishMinute(" + back + ")", park.finishMinute(back), minute);
  }

  private static void dueNoFinish(SlidePark park, int back) {
    Check.dueThrow("finishedGuest(" + back + ")", Check.NO_ELEMENT,
        () -> park.finishedGuest(back));
    Check.dueThrow("finishedSlide(" + back + ")", Check.NO_ELEMENT,
        () -> park.finishedSlide(back));
    Check.dueThrow("finishMinute(" + back + ")", Check.NO_ELEMENT, () -> park.finishMinute(back));
  }

  private static void duePhotos(SlidePark park, int want) {
    Check.due("photoFinishes", park.photoFinishes(), want);
    Check.due("photoFinishesByRuns", park.photoFinishesByRuns(), want);
    Check.due("isConsistent", park.isConsistent(), true);
  }

  private static void finishesInOrder() {
    SlidePark park = park(3, 2, 3);
    dueNoFinish(park, 0);
    park.book(2, 1, 4);
    park.book(1, 0, 5);
    park.book(0, 0, 0);
    park.passMinutes(6);
    Check.due("finishCount", park.finishCount(), 1);
    park.passMinutes(1);
    Check.due("finishCount", park.finishCount(), 3);
    // Both end in minute 7: the booking with the lower index finishes first.
    dueFinish(park, 0, 1, 0, 7);
    dueFinish(park, 1, 2, 1, 7);
    dueFinish(park, 2, 0, 0, 2);
    for (int back : new int[] {-1, 3, 16, Integer.MIN_VALUE, Integer.MAX_VALUE}) {
      dueNoFinish(park, back);
    }
  }

  private static void onlySixteenAreKept() {
    SlidePark park = park(4, 1, 1);
    int made = 0;
    for (int i = 0; i < 20; i++) {
      park.book(i % 4, i % 2, park.minute());
      park.passMinutes(1);
      made++;
      Check.due("finishCount", park.finishCount(), Math.min(made, 16));
      for (int back = 0; back < Math.min(made, 16); back++) {
        int ride = i - back;
        dueFinish(park, back, ride % 4, ride % 2, ride + 1);
      }
      dueNoFinish(park, Math.min(made, 16));
    }
    Check.due("rides of all are counted", park.rides(0), 5);
  }

  private static void photoFinishes() {
    SlidePark park = park(10, 1, 2, 3, 4);
    duePhotos(park, 0);
    park.book(0, 0, 10);
    park.passMinutes(11);
    duePhotos(park, 0);
    park.book(0, 0, 20);
    park.book(1, 1, 19);
    park.passMinutes(10);
    duePhotos(park, 1);
    park.book(0, 0, 30);
    park.book(1, 1, 29);
    park.book(2, 2, 28);
    park.passMinutes(10);
    duePhotos(park, 4);
    park.book(0, 0, 40);
    park.book(1, 1, 39);
    park.book(2, 2, 38);
    park.book(3, 3, 37);
    park.passMinutes(10);
    duePhotos(park, 10);
    park.book(0, 0, 42);
    park.passMinutes(10);
    duePhotos(park, 10);
    Check.due("finishCount", park.finishCount(), 11);
  }

  private static void photosOfKeptFinishesOnly() {
    SlidePark park = park(4, 1, 1, 1);
    for (int guest = 0; guest < 3; guest++) {
      park.book(guest, guest, 0);
    }
    park.passMinutes(1);
    duePhotos(park, 3);
    for (int i = 0; i < 13; i++) {
      park.book(i % 3, i % 3, park.minute());
      park.passMinutes(1);
    }
    duePhotos(park, 3);
    park.book(3, 0, park.minute());
    park.passMinutes(1);
    duePhotos(park, 1);
    park.book(3, 0, park.minute());
    park.passMinutes(1);
    duePhotos(park, 0);
  }

  private static void coinsOfTheOffice() {
    SlidePark park = new SlidePark();
    park.buildSlide(1, 7);
    park.addGuest();
    park.addGuest();
    Check.due("officeCoins", park.officeCoins(), 0);
    for (int i = 0; i < 4; i++) {
      park.book(0, 0, i);
    }
    park.book(1, 0, 30);
    Check.due("officeCoins", park.officeCoins(), 35);
    Check.due("cancel", park.cancel(4), 50);
    Check.due("refundedCoins of a cancelled booking", park.refundedCoins(), 7);
    Check.due("officeCoins", park.officeCoins(), 28);
    Check.due("splashes", park.splashes(), 0);
    park.passMinutes(4);
    Check.due("splashes", park.splashes(), 1);
    Check.due("half of the price, rounded down", park.refundedCoins(), 10);
    Check.due("officeCoins", park.officeCoins(), 25);
    Check.due("coins", park.coins(0), 25);
    Check.due("isConsistent", park.isConsistent(), true);
  }
}
