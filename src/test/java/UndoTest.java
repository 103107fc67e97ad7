import java.util.ArrayList;
import java.util.List;

/** Promises 54 and 55: what is recorded, and what undo brings back. */
public final class UndoTest {
  public static void main(String[] args) {
    everyRecordedCall();
    onlyEight();
    callsThatThrowPushNothingOut();
    callsThatAreNotRecorded();
    undoneCallsMakeRoom();
    undoBringsBackCounters();
    Check.close("UndoTest");
  }

  private static SlidePark park() {
    SlidePark park = new SlidePark();
    Check.run(park, "slide 2 6;slide 1 4;guest;guest;guest;book 0 0 0");
    return park;
  }

  private static void everyRecordedCall() {
    SlidePark park = park();
    Check.due("undoCount", park.undoCount(), 1);
    List<String> views = new ArrayList<>();
    List<Check.Call> calls = new ArrayList<>();
    calls.add(() -> park.book(1, 1, 9));
    calls.add(() -> park.joinQueue(2, 1));
    calls.add(() -> park.joinQueue(1, 1));
    calls.add(() -> park.leaveQueue(2));
    calls.add(() -> park.passMinutes(5));
    calls.add(() -> park.cancel(0));
    calls.add(() -> park.buildSlide(3, 3));
    calls.add(() -> park.addGuest());
    for (Check.Call call : calls) {
      views.add(View.of(park));
      call.answer();
    }
    for (int i = 7; i >= 0; i--) {
      Check.due("undo", park.undo(), i);
      Check.due("undoCount", park.undoCount(), i);
      Check.due("state after undo of call " + i, View.of(park), views.get(i));
    }
    Check.dueThrowUnchanged(park, "undo", Check.STATE, park::undo);
    String before = View.of(park);
    Check.run(park, "guest;book 3 1 5;queue 2 0;wait 20;slide 1 1");
    Check.due("undoCount of a text", park.undoCount(), 1);
    Check.due("undo of a text", park.undo(), 0);
    Check.due("state after undo of a text", View.of(park), before);
  }

  private static void onlyEight() {
    SlidePark park = new SlidePark();
    int[] due = {0, 1, 2, 3, 4, 5, 6, 7, 8, 8, 8, 8};
    for (int passed = 0; passed < due.length; passed++) {
      Check.due("undoCount", park.undoCount(), due[passed]);
      park.passMinutes(1);
    }
    for (int i = 7; i >= 0; i--) {
      Check.due("undo", park.undo(), i);
      Check.due("minute", park.minute(), 4 + i);
    }
    Check.dueThrowUnchanged(park, "a ninth undo", Check.STATE, park::undo);
    Check.due("minute", park.minute(), 4);
  }

  private static void callsThatThrowPushNothingOut() {
    SlidePark park = park();
    for (int i = 0; i < 8; i++) {
      park.passMinutes(1);
    }
    for (int i = 0; i < 3; i++) {
      Check.dueThrowUnchanged(park, "buildSlide", Check.ARGUMENT, () -> park.buildSlide(0, 0));
      Check.dueThrowUnchanged(park, "book", Check.INDEX, () -> park.book(9, 9, 9));
      Check.dueThrowUnchanged(park, "cancel", Check.INDEX, () -> park.cancel(9));
      Check.dueThrowUnchanged(park, "joinQueue", Check.INDEX, () -> park.joinQueue(9, 9));
      Check.dueThrowUnchanged(park, "leaveQueue", Check.NO_ELEMENT, () -> park.leaveQueue(0));
      Check.dueThrowUnchanged(park, "passMinutes", Check.ARGUMENT, () -> park.passMinutes(0));
      Check.dueThrowUnchanged(park, "runCommands", Check.ARGUMENT, park::runCommands);
      Check.feed(park, "guest;wait 0");
      Check.dueThrowUnchanged(park, "runCommands", Check.UNSUPPORTED, park::runCommands);
    }
    for (int i = 7; i >= 0; i--) {
      Check.due("undo", park.undo(), i);
      Check.due("minute", park.minute(), i);
    }
  }

  private static void callsThatAreNotRecorded() {
    SlidePark park = park();
    park.feed('x');
    park.writeSlide(0);
    park.save();
    park.isConsistent();
    park.firstFree(0, 0);
    Check.due("undoCount", park.undoCount(), 1);
    Check.due("undo", park.undo(), 0);
    Check.due("slideCount", park.slideCount(), 0);
    Check.due("undoCount after undo", park.undoCount(), 0);
  }

  private static void undoneCallsMakeRoom() {
    SlidePark park = new SlidePark();
    for (int i = 0; i < 20; i++) {
      park.passMinutes(1);
    }
    for (int i = 0; i < 5; i++) {
      park.undo();
    }
    Check.due("minute", park.minute(), 15);
    park.addGuest();
    park.passMinutes(7);
    Check.due("undoCount", park.undoCount(), 5);
    int[] minutes = {15, 15, 14, 13, 12};
    for (int i = 0; i < 5; i++) {
      Check.due("undo", park.undo(), 4 - i);
      Check.due("minute", park.minute(), minutes[i]);
    }
    Check.due("guestCount", park.guestCount(), 0);
    Check.dueThrow("undo", Check.STATE, park::undo);
  }

  private static void undoBringsBackCounters() {
    SlidePark park = new SlidePark();
    Check.run(park, "slide 1 8;guest;book 0 0 0;book 0 0 1;book 0 0 2;book 0 0 3");
    park.passMinutes(3);
    String before = View.of(park);
    park.passMinutes(60);
    Check.due("splashes", park.splashes(), 1);
    Check.due("refundedCoins", park.refundedCoins(), 4);
    Check.due("rides", park.rides(0), 4);
    Check.due("finishCount", park.finishCount(), 4);
    park.undo();
    Check.due("splashes", park.splashes(), 0);
    Check.due("refundedCoins", park.refundedCoins(), 0);
    Check.due("rides", park.rides(0), 3);
    Check.due("finishCount", park.finishCount(), 3);
    Check.due("view", View.of(park), before);
  }
}
