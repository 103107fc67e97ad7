/** Promises 56 and 57: saving and restoring. */
public final class SaveTest {
  public static void main(String[] args) {
    nothingSaved();
    savedStateIsWhole();
    savedStateIsKept();
    anEarlierOneIsReplaced();
    nothingToUndoAfterwards();
    undoLeavesTheSavedState();
    Check.close("SaveTest");
  }

  private static SlidePark park() {
    SlidePark park = new SlidePark();
    Check.run(park, "slide 1 8;slide 5 2;guest;guest;guest;book 0 0 0");
    Check.run(park, "book 0 0 1;book 0 0 2;book 0 0 3;book 1 1 2;queue 1 1");
    return park;
  }

  private static void nothingSaved() {
    SlidePark park = park();
    Check.dueThrowUnchanged(park, "restore", Check.STATE, park::restore);
    Check.due("undoCount", park.undoCount(), 2);
  }

  private static void savedStateIsWhole() {
    SlidePark park = park();
    park.passMinutes(4);
    Check.due("splashes", park.splashes(), 1);
    Check.due("save", park.save(), 1);
    String view = View.of(park);
    Check.run(park, "slide 9 9;guest;queue 2 0;wait 50;book 0 1 60");
    park.addGuest();
    Check.due("restore", park.restore(), 1);
    Check.due("the saved state", View.of(park), view);
    Check.due("minute", park.minute(), 4);
    Check.due("passMinutes goes on from there", park.passMinutes(3), 1);
  }

  private static void savedStateIsKept() {
    SlidePark park = park();
    Check.due("save", park.save(), 5);
    String view = View.of(park);
    for (int i = 0; i < 3; i++) {
      park.passMinutes(10 + i);
      park.addGuest();
      Check.due("restore", park.restore(), 5);
      Check.due("the saved state", View.of(park), view);
    }
    Check.due("restore again", park.restore(), 5);
    Check.due("the saved state", View.of(park), view);
  }

  private static void anEarlierOneIsReplaced() {
    SlidePark park = park();
    park.save();
    park.passMinutes(2);
    Check.due("save", park.save(), 3);
    String view = View.of(park);
    park.passMinutes(9);
    Check.due("restore", park.restore(), 3);
    Check.due("the later saved state", View.of(park), view);
  }

  private static void nothingToUndoAfterwards() {
    SlidePark park = park();
    park.save();
    park.passMinutes(1);
    Check.due("undoCount before", park.undoCount(), 3);
    park.restore();
    Check.due("undoCount after", park.undoCount(), 0);
    Check.dueThrowUnchanged(park, "undo", Check.STATE, park::undo);
    park.addGuest();
    Check.due("undoCount of a later call", park.undoCount(), 1);
    Check.due("undo", park.undo(), 0);
    Check.due("guestCount", park.guestCount(), 3);
  }

  private static void undoLeavesTheSavedState() {
    SlidePark park = park();
    park.passMinutes(1);
    park.save();
    String view = View.of(park);
    Check.due("undo", park.undo(), 2);
    Check.due("minute", park.minute(), 0);
    Check.due("restore", park.restore(), 4);
    Check.due("the saved state", View.of(park), view);
  }
}
