import java.util.ArrayList;
import java.util.List;

/** Boundaries of undoing, saving and restoring: promises 54 to 57. */
final class UndoBounds {
  private UndoBounds() {
  }

  private static SlidePark afterMinutes(int calls) {
    SlidePark park = Scene.fresh();
    for (int i = 0; i < calls; i++) {
      park.passMinutes(1);
    }
    return park;
  }

  @Says({"Undo: At most the 8 latest calls can be undone.",
      "Promise 54: Returns the number, 0 to 8.",
      "Promise 55: Throws `IllegalStateException` if no call can be undone"})
  static void eightCallsAndNoNinth() {
    for (int calls = 0; calls <= 30; calls++) {
      int made = calls;
      int kept = Math.min(8, calls);
      SlidePark park = afterMinutes(calls);
      Check.due("undoCount after " + calls + " calls", park.undoCount(), kept);
      for (int left = kept - 1; left >= 0; left--) {
        Check.due("undo", park.undo(), left);
        Check.due("undoCount", park.undoCount(), left);
        Check.due("minute", park.minute(), calls - kept + left);
      }
      Scene.refused(Check.STATE, "undo of call " + (kept + 1), () -> {
        SlidePark undone = afterMinutes(made);
        for (int i = 0; i < kept; i++) {
          undone.undo();
        }
        return undone;
      }, SlidePark::undo);
    }
  }

  @Says("Undo: At most the 8 latest calls can be undone.")
  static void undoneCallsAreReplacedByLaterOnes() {
    for (int calls = 1; calls <= 18; calls++) {
      for (int undone = 1; undone <= Math.min(8, calls); undone++) {
        for (int later = 0; later <= 9; later++) {
          dueReplaced(calls, undone, later);
        }
      }
    }
  }

  private static void dueReplaced(int calls, int undone, int later) {
    SlidePark park = afterMinutes(calls);
    for (int i = 0; i < undone; i++) {
      park.undo();
    }
    for (int i = 0; i < later; i++) {
      park.passMinutes(10);
    }
    String what = " after " + calls + " calls, " + undone + " undone and " + later + " later";
    int count = Math.min(8, Math.min(8, calls) - undone + later);
    Check.due("undoCount" + what, park.undoCount(), count);
    for (int i = 1; i <= count; i++) {
      park.undo();
      int minute = i <= later ? calls - undone + 10 * (later - i) : calls - undone - (i - later);
      Check.due("minute after undo " + i + what, park.minute(), minute);
    }
  }

  @Says("Undo: The methods buildSlide, addGuest, book, cancel, joinQueue, leaveQueue, passMinutes "
      + "and runCommands are recorded when they return normally, even if nothing changes.")
  static void eachOfTheEightMethodsIsRecorded() {
    List<Scene.Act> calls = new ArrayList<>();
    calls.add(park -> park.buildSlide(3, 3));
    calls.add(SlidePark::addGuest);
    calls.add(park -> park.book(0, 2, 9));
    calls.add(park -> park.joinQueue(1, 2));
    calls.add(park -> park.leaveQueue(1));
    calls.add(park -> park.passMinutes(1));
    calls.add(park -> park.cancel(0));
    calls.add(park -> Check.run(park, "guest;wait 2;slide 1 1"));
    SlidePark park = empty(Scene.office(2, 1, 1, 1, 1));
    List<String> views = new ArrayList<>();
    for (Scene.Act call : calls) {
      views.add(View.of(park));
      Check.outcome(() -> call.on(park));
    }
    Check.due("slideCount", park.slideCount(), 4);
    Check.due("minute", park.minute(), 3);
    for (int i = 7; i >= 0; i--) {
      Check.due("undo", Check.outcome(park::undo), i);
      Check.due("state after undo of call " + i, View.of(park), views.get(i));
    }
  }

  @Says("Undo: even if nothing changes.")
  static void aTextThatChangesNothingIsRecorded() {
    SlidePark park = empty(Scene.fresh());
    park.buildSlide(1, 1);
    park.addGuest();
    String view = View.of(park);
    for (int count = 3; count <= 8; count++) {
      Check.due("runCommands", Check.run(park, "queue 0 0;leave 0"), 2);
      Check.due("the state", View.of(park), view);
      Check.due("undoCount", park.undoCount(), count);
    }
    Check.due("undo", park.undo(), 7);
    Check.due("the state", View.of(park), view);
  }

  private static SlidePark empty(SlidePark park) {
    Check.dueThrow("what the scene has fed", Check.ARGUMENT, park::runCommands);
    return park;
  }

  @Says("Undo: The methods buildSlide, addGuest, book, cancel, joinQueue, leaveQueue, passMinutes "
      + "and runCommands are recorded")
  static void noOtherMethodIsRecorded() {
    SlidePark park = Scene.fresh();
    park.buildSlide(1, 1);
    park.feed('x');
    park.save();
    park.writeSlide(0);
    View.of(park);
    park.outputChar(0);
    park.firstFree(0, 0);
    park.isConsistent();
    Check.due("undoCount", park.undoCount(), 1);
    Check.due("undo", park.undo(), 0);
    Check.due("slideCount", park.slideCount(), 0);
    Check.due("undoCount", park.undoCount(), 0);
    park.restore();
    Check.due("slideCount", park.slideCount(), 1);
    Check.due("undoCount", park.undoCount(), 0);
  }

  @Says("Undo: The input buffer, the output, the error position and the failed command are not "
      + "part of the undone or saved state.")
  static void whatIsNeitherUndoneNorSaved() {
    SlidePark park = new SlidePark();
    park.save();
    Check.run(park, "slide 1 9;guest");
    park.writeSlide(0);
    Check.feed(park, "gu;");
    Check.dueThrow("runCommands", Check.ARGUMENT, park::runCommands);
    Check.feed(park, "wait;wait;book 9 9 9");
    Check.dueThrow("runCommands", Check.UNSUPPORTED, park::runCommands);
    park.feed('g');
    Check.due("undo", park.undo(), 0);
    park.feed('u');
    dueKept(park);
    Check.due("restore", park.restore(), 0);
    dueKept(park);
    Check.due("feed", park.feed('e'), 3);
    park.feed('s');
    park.feed('t');
    Check.due("runCommands of what was fed before and after", park.runCommands(), 1);
    Check.due("guestCount", park.guestCount(), 1);
  }

  private static void dueKept(SlidePark park) {
    Check.due("slideCount", park.slideCount(), 0);
    Check.due("errorPosition", park.errorPosition(), 2);
    Check.due("failedCommand", park.failedCommand(), 2);
    Check.due("outputChar(2)", park.outputChar(2), '9');
    Check.due("outputChar(5)", park.outputChar(5), 'w');
  }

  @Says("Promise 57: Throws `IllegalStateException` if no state was saved")
  static void restoreWithoutASave() {
    Scene.refused(Check.STATE, "restore", SlidePark::new, SlidePark::restore);
    Scene.refused(Check.STATE, "restore", () -> {
      SlidePark park = new SlidePark();
      for (int i = 0; i < 10; i++) {
        park.addGuest();
      }
      park.feed('x');
      return park;
    }, SlidePark::restore);
    SlidePark park = new SlidePark();
    Check.due("save", park.save(), 0);
    Check.due("restore", park.restore(), 0);
  }

  @Says({"Promise 56: An earlier saved state is replaced.",
      "Promise 56: Returns the number of bookings.",
      "Promise 57: Returns the number of bookings."})
  static void fromNoBookingToTwelve() {
    SlidePark park = Scene.office(2, 1, 1);
    for (int count = 0; count <= 12; count++) {
      Check.due("save of " + count, park.save(), count);
      String view = View.of(park);
      park.passMinutes(40);
      Check.due("restore of " + count, park.restore(), count);
      Check.due("the restored state", View.of(park), view);
      if (count < 12) {
        park.book(count % 2, 0, 20 + count);
      }
    }
  }

  @Says("Promise 57: The saved state is kept, and no call can be undone afterwards.")
  static void restoredAgainAndNothingToUndo() {
    Scene.Way way = () -> {
      SlidePark park = Scene.office(2, 1, 1);
      park.book(0, 0, 5);
      park.save();
      for (int i = 0; i < 9; i++) {
        park.passMinutes(1);
      }
      park.restore();
      return park;
    };
    SlidePark park = way.make();
    String view = View.of(park);
    Check.due("undoCount", park.undoCount(), 0);
    Scene.refused(Check.STATE, "undo", way, SlidePark::undo);
    for (int i = 0; i < 3; i++) {
      park.passMinutes(30);
      park.addGuest();
      Check.due("undoCount", park.undoCount(), 2);
      Check.due("undo", park.undo(), 1);
      Check.due("undo", park.undo(), 0);
      Check.due("state after undo", View.of(park), view);
      park.passMinutes(30);
      Check.due("restore", park.restore(), 1);
      Check.due("state after restore", View.of(park), view);
      Check.due("undoCount", park.undoCount(), 0);
    }
  }

  @Says("Undo: At most the 8 latest calls can be undone.")
  static void theMinutesOfBookingsComeBack() {
    SlidePark park = Scene.office(2, 9, 1, 1, 1);
    park.book(0, 0, 20);
    park.book(1, 1, 40);
    Check.due("cancel", park.cancel(0), 50);
    Check.due("isFree of the cancelled booking", park.isFree(0, 28), true);
    park.undo();
    for (int minute = 11; minute <= 30; minute++) {
      Check.due("isFree(0, " + minute + ")", park.isFree(0, minute), minute == 11 || minute >= 29);
    }
    Check.due("isFree(1, 40)", park.isFree(1, 40), false);
    Check.due("isFree(1, 41)", park.isFree(1, 41), true);
    park.passMinutes(28);
    Check.due("the last minute", park.passMinutes(1), 1);
  }

  @Says("Promise 57: Restores the saved state.")
  static void aSlideBuiltAnewDoesNotStay() {
    SlidePark park = Scene.fresh();
    park.buildSlide(4, 3);
    park.save();
    park.undo();
    park.buildSlide(9, 8);
    Check.due("duration", park.duration(0), 9);
    park.restore();
    Check.due("duration of the saved slide", park.duration(0), 4);
    Check.due("price of the saved slide", park.price(0), 3);
    park.addGuest();
    park.undo();
    Check.due("duration after undo", park.duration(0), 4);
    Check.due("price after undo", park.price(0), 3);
  }

  @Says("Promise 56: Saves all slides, guests, bookings, queues, finishes, coins and the time.")
  static void allIsSaved() {
    SlidePark park = Scene.office(3, 1, 8, 4, 2);
    for (int i = 0; i < 4; i++) {
      park.book(0, 0, i);
    }
    park.book(1, 1, 3);
    park.book(1, 0, 90);
    park.joinQueue(2, 1);
    park.joinQueue(0, 1);
    park.cancel(5);
    park.passMinutes(4);
    Check.due("splashes", park.splashes(), 1);
    Check.due("finishCount", park.finishCount(), 4);
    Check.due("queueLength", park.queueLength(1), 2);
    Check.due("save", park.save(), 1);
    String view = View.of(park);
    park.passMinutes(60);
    park.buildSlide(1, 1);
    park.addGuest();
    park.book(3, 2, 64);
    Check.due("restore", park.restore(), 1);
    Check.due("the restored state", View.of(park), view);
  }
}
