/** Promises 26 to 28: free minutes, found in two ways. */
public final class FreeTest {
  public static void main(String[] args) {
    wrongInputs();
    freeAroundABooking();
    otherSlidesAndGuestsDoNotCount();
    gaps();
    noSuchMinute();
    startedBookingsCount();
    Check.close("FreeTest");
  }

  private static SlidePark park(int duration) {
    SlidePark park = new SlidePark();
    park.buildSlide(duration, 1);
    park.buildSlide(1, 1);
    park.addGuest();
    park.addGuest();
    return park;
  }

  private static void dueFirst(SlidePark park, int from, int want) {
    Check.due("firstFree(0, " + from + ")", park.firstFree(0, from), want);
    Check.due("firstFreeByGaps(0, " + from + ")", park.firstFreeByGaps(0, from), want);
  }

  private static void dueNoneFree(SlidePark park, int from) {
    Check.dueThrow("firstFree", Check.NO_ELEMENT, () -> park.firstFree(0, from));
    Check.dueThrow("firstFreeByGaps", Check.NO_ELEMENT, () -> park.firstFreeByGaps(0, from));
  }

  private static void wrongInputs() {
    SlidePark park = park(3);
    park.passMinutes(10);
    for (int slide : new int[] {-1, 2, Integer.MIN_VALUE, Integer.MAX_VALUE}) {
      Check.dueThrow("isFree", Check.INDEX, () -> park.isFree(slide, 10));
      Check.dueThrow("isFree", Check.INDEX, () -> park.isFree(slide, 9));
      Check.dueThrow("firstFree", Check.INDEX, () -> park.firstFree(slide, 9));
      Check.dueThrow("firstFreeByGaps", Check.INDEX, () -> park.firstFreeByGaps(slide, 9));
    }
    for (int minute : new int[] {9, 0, -1, 131, Integer.MIN_VALUE, Integer.MAX_VALUE}) {
      Check.dueThrow("isFree", Check.ARGUMENT, () -> park.isFree(0, minute));
      Check.dueThrow("firstFree", Check.ARGUMENT, () -> park.firstFree(0, minute));
      Check.dueThrow("firstFreeByGaps", Check.ARGUMENT, () -> park.firstFreeByGaps(0, minute));
    }
    Check.due("isFree at the first minute", park.isFree(0, 10), true);
    Check.due("isFree at the last minute", park.isFree(0, 130), true);
    dueFirst(park, 10, 10);
    dueFirst(park, 130, 130);
  }

  private static void freeAroundABooking() {
    SlidePark park = park(3);
    park.book(0, 0, 10);
    for (int start = 0; start <= 120; start++) {
      boolean free = start <= 7 || start >= 13;
      Check.due("isFree(0, " + start + ")", park.isFree(0, start), free);
      dueFirst(park, start, free ? start : 13);
    }
  }

  private static void otherSlidesAndGuestsDoNotCount() {
    SlidePark park = park(3);
    park.book(0, 1, 4);
    park.book(1, 1, 5);
    Check.due("isFree(0, 4)", park.isFree(0, 4), true);
    Check.due("isFree(1, 4)", park.isFree(1, 4), false);
    dueFirst(park, 4, 4);
    Check.due("firstFree(1, 4)", park.firstFree(1, 4), 6);
    Check.due("firstFreeByGaps(1, 4)", park.firstFreeByGaps(1, 4), 6);
  }

  private static void gaps() {
    SlidePark park = park(3);
    // Made out of order: a gap of 2 behind minute 6, one of 3 behind minute 11.
    park.book(0, 0, 14);
    park.book(0, 0, 3);
    park.book(0, 0, 8);
    dueFirst(park, 0, 0);
    dueFirst(park, 1, 11);
    dueFirst(park, 6, 11);
    dueFirst(park, 11, 11);
    dueFirst(park, 12, 17);
    dueFirst(park, 16, 17);
    dueFirst(park, 17, 17);
  }

  private static void noSuchMinute() {
    SlidePark park = park(9);
    park.book(0, 0, 112);
    dueFirst(park, 103, 103);
    dueNoneFree(park, 104);
    dueNoneFree(park, 120);
    park.passMinutes(1);
    dueFirst(park, 104, 121);
    SlidePark last = park(1);
    last.book(0, 0, 120);
    dueFirst(last, 119, 119);
    dueNoneFree(last, 120);
  }

  private static void startedBookingsCount() {
    SlidePark park = park(5);
    park.book(0, 0, 0);
    park.book(1, 0, 5);
    park.passMinutes(3);
    Check.due("isFree in a started booking", park.isFree(0, 4), false);
    dueFirst(park, 3, 10);
  }
}
