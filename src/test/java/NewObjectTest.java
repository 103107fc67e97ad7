/** Promise 1. */
public final class NewObjectTest {
  public static void main(String[] args) {
    SlidePark park = new SlidePark();
    Check.due("view", View.of(park), "minute 0 office 0 refunded 0 splashes 0");
    Check.due("slideCount", park.slideCount(), 0);
    Check.due("guestCount", park.guestCount(), 0);
    Check.due("bookingCount", park.bookingCount(), 0);
    Check.due("finishCount", park.finishCount(), 0);
    Check.due("minute", park.minute(), 0);
    Check.due("mostWatched", park.mostWatched(), 0);
    Check.due("mostWatchedByTable", park.mostWatchedByTable(), 0);
    Check.due("mostAtOnce", park.mostAtOnce(), 0);
    Check.due("mostAtOnceBySweep", park.mostAtOnceBySweep(), 0);
    Check.due("photoFinishes", park.photoFinishes(), 0);
    Check.due("photoFinishesByRuns", park.photoFinishesByRuns(), 0);
    Check.due("isConsistent", park.isConsistent(), true);
    Check.due("undoCount", park.undoCount(), 0);
    Check.dueThrow("outputChar(0)", Check.INDEX, () -> park.outputChar(0));
    Check.dueThrow("meanCoins", Check.ARITHMETIC, park::meanCoins);
    Check.dueThrow("busyShare", Check.ARITHMETIC, park::busyShare);
    Check.dueThrow("errorPosition", Check.NO_ELEMENT, park::errorPosition);
    Check.dueThrow("failedCommand", Check.NO_ELEMENT, park::failedCommand);
    Check.dueThrow("undo", Check.STATE, park::undo);
    Check.dueThrow("restore", Check.STATE, park::restore);
    Check.close("NewObjectTest");
  }
}
