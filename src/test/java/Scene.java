/**
 * Offices to test boundaries in, and a look at all of them. Nothing of a new office is left at its
 * first value: the output, the input buffer, the error position, the failed command and the saved
 * state hold something that a refused call could spoil.
 */
final class Scene {
  static final int[] FAR_OUT = {-1, Integer.MIN_VALUE, Integer.MIN_VALUE + 1, Integer.MAX_VALUE - 1,
      Integer.MAX_VALUE};

  /** A way to make the same office again and again. */
  interface Way {
    SlidePark make();
  }

  interface Act {
    Object on(SlidePark park);
  }

  interface ActAt {
    Object on(SlidePark park, int index);
  }

  /** Undoing no call, one, two and so on up to eight, then three other ways to look. */
  private static final int LOOKS = 12;
  private static final int LOOK_AT_SAVED = 9;
  private static final int LOOK_AT_TEXT = 10;

  private Scene() {
  }

  /** No slide, no guest, minute 0, no call to undo. */
  static SlidePark fresh() {
    SlidePark park = new SlidePark();
    Check.run(park, "slide 2 3;guest");
    park.writeSlide(0);
    Check.feed(park, "gues;");
    Check.dueThrow("gues;", Check.ARGUMENT, park::runCommands);
    Check.feed(park, "guest;wait 0");
    Check.dueThrow("guest;wait 0", Check.UNSUPPORTED, park::runCommands);
    park.passMinutes(3);
    park.save();
    park.undo();
    park.undo();
    Check.feed(park, "leav");
    return park;
  }

  /** Slides and guests at minute 0, and eight calls to undo, no two of them alike in a row. */
  static SlidePark office(int guests, int... durationsAndPrices) {
    SlidePark park = fresh();
    for (int i = 0; i < durationsAndPrices.length; i += 2) {
      park.buildSlide(durationsAndPrices[i], durationsAndPrices[i + 1]);
    }
    for (int i = 0; i < guests; i++) {
      park.addGuest();
    }
    for (int i = 0; i < 4 && guests > 0 && durationsAndPrices.length > 0; i++) {
      park.joinQueue(0, 0);
      park.leaveQueue(0);
    }
    return park;
  }

  /** The call throws, and whatever is done with the office afterwards, nothing was changed. */
  static void refused(Class<?> want, String what, Way way, Act act) {
    for (int look = 0; look < LOOKS; look++) {
      String before = look(way.make(), look, true);
      SlidePark park = way.make();
      Check.dueThrow(what, want, () -> act.on(park));
      Check.due("look " + look + " after " + what, look(park, look, true), before);
    }
  }

  /** The indices from 0 up to count - 1 are answered, those beside them and far out refused. */
  static void onlyBelow(int count, Class<?> want, String what, Way way, ActAt act) {
    for (int index = 0; index < count; index++) {
      int asked = index;
      SlidePark park = way.make();
      String outcome = Check.outcome(() -> act.on(park, asked)).toString();
      Check.due(what + " of " + asked + " is refused", outcome.startsWith("throws."), false);
    }
    refused(want, what + " of " + count, way, park -> act.on(park, count));
    for (int index : FAR_OUT) {
      refused(want, what + " of " + index, way, park -> act.on(park, index));
    }
  }

  /**
   * The text is refused, the input buffer is empty afterwards, the error position and the failed
   * command are as given, and nothing else is changed.
   */
  static void refusedText(Class<?> want, String text, int error, int failed, Way way) {
    for (int look = 0; look <= LOOK_AT_SAVED; look++) {
      String before = look(way.make(), look, false);
      SlidePark park = way.make();
      Check.outcome(park::runCommands);
      Check.feed(park, text);
      Check.dueThrow("text " + text, want, park::runCommands);
      Check.due("errorPosition of " + text, Check.outcome(park::errorPosition), error);
      Check.due("failedCommand of " + text, Check.outcome(park::failedCommand), failed);
      Check.due("look " + look + " after " + text, look(park, look, false), before);
      Check.due("length of the buffer after " + text, park.feed('x'), 1);
    }
  }

  private static String look(SlidePark park, int look, boolean withErrors) {
    StringBuilder seen = new StringBuilder();
    if (look < LOOK_AT_SAVED) {
      for (int i = 0; i < look; i++) {
        seen.append(Check.outcome(park::undo)).append(' ');
      }
    } else if (look == LOOK_AT_SAVED) {
      seen.append(Check.outcome(park::restore));
    } else if (look == LOOK_AT_TEXT) {
      seen.append(Check.outcome(park::runCommands));
    } else {
      for (int i = 0; i < 61; i++) {
        seen.append(Check.outcome(() -> park.feed('#'))).append(' ');
      }
    }
    seen.append(" undoCount ").append(park.undoCount()).append('\n').append(View.of(park));
    for (int i = 0; i < 40; i++) {
      int index = i;
      seen.append(Check.outcome(() -> park.outputChar(index))).append(' ');
    }
    if (withErrors) {
      seen.append(Check.outcome(park::errorPosition)).append(' ');
      seen.append(Check.outcome(park::failedCommand));
    }
    return seen.toString();
  }
}
