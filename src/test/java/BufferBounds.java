/** Boundaries of the input buffer and of what is kept of a text: promises 48 to 51. */
final class BufferBounds {
  private static final String SIXTY = "guest;guest;guest;guest;guest;guest;guest;guest;"
      + "guest;wait 1";
  private static final String ELEVEN_WAITS =
      "wait;wait;wait;wait;wait;wait;wait;wait;wait;wait;wait";

  private BufferBounds() {
  }

  /** An office whose input buffer holds the text. */
  private static SlidePark with(String text) {
    SlidePark park = Scene.office(1, 1, 1);
    Check.dueThrow("what the scene has fed", Check.ARGUMENT, park::runCommands);
    Check.feed(park, text);
    return park;
  }

  @Says({"Commands: The input buffer holds at most 60 characters.",
      "Promise 48: Throws `IllegalStateException` if the input buffer holds 60 characters"})
  static void sixtyCharactersAndNo61st() {
    Check.due("length", SIXTY.length(), 60);
    SlidePark park = new SlidePark();
    for (int i = 0; i < 60; i++) {
      Check.due("feed", park.feed(SIXTY.charAt(i)), i + 1);
    }
    Check.due("runCommands of 60 characters", park.runCommands(), 10);
    Check.due("guestCount", park.guestCount(), 9);
    Check.due("minute", park.minute(), 1);
    for (char character : new char[] {'0', ';', 0, 255, '\uffff'}) {
      Scene.refused(Check.STATE, "a 61st character", () -> with(SIXTY), p -> p.feed(character));
    }
    Check.due("a 60th character", with(SIXTY.substring(0, 59)).feed('5'), 60);
  }

  @Says("Promise 48: - `character`: any character")
  static void anyCharacterIsTaken() {
    for (char character : new char[] {0, 1, ' ', 127, 128, 255, 256, '\ud800', '\uffff'}) {
      SlidePark park = new SlidePark();
      Check.due("feed of " + (int) character, park.feed(character), 1);
      Check.dueThrow("runCommands", Check.ARGUMENT, park::runCommands);
      Check.due("errorPosition", park.errorPosition(), 0);
    }
  }

  @Says("Promise 49: The input buffer is empty afterwards in all cases.")
  static void theBufferIsEmptyAfterwards() {
    SlidePark carriedOut = with("guest");
    Check.due("runCommands", carriedOut.runCommands(), 1);
    Check.due("feed", carriedOut.feed('g'), 1);
    SlidePark malformed = with("guest;");
    Check.dueThrow("runCommands", Check.ARGUMENT, malformed::runCommands);
    Check.due("feed", malformed.feed('g'), 1);
    SlidePark failed = with("guest;wait 0");
    Check.dueThrow("runCommands", Check.UNSUPPORTED, failed::runCommands);
    Check.due("feed", failed.feed('g'), 1);
    SlidePark full = with(SIXTY);
    Check.due("runCommands", full.runCommands(), 10);
    Check.feed(full, SIXTY.replace("guest", "wait "));
    Check.dueThrow("runCommands", Check.ARGUMENT, full::runCommands);
    Check.due("errorPosition", full.errorPosition(), 5);
    Check.feed(full, "wait 1");
    Check.due("nothing is left of a longer text", full.runCommands(), 1);
    Check.dueThrow("the empty buffer", Check.ARGUMENT, full::runCommands);
    Check.due("errorPosition of the empty buffer", full.errorPosition(), 0);
  }

  @Says({"Commands: A text consists of one or more commands, separated by semicolons.",
      "Promise 49: Returns the number of commands."})
  static void fromOneCommandToTwelve() {
    Scene.refusedText(Check.ARGUMENT, "", 0, 1, () -> Scene.office(1, 1, 1));
    String text = "";
    for (int commands = 1; commands <= 12; commands++) {
      text = text + (commands == 1 ? "" : ";") + "wait";
      SlidePark park = with(text);
      Check.due("runCommands of " + text, park.runCommands(), commands);
      Check.due("minute", park.minute(), commands);
    }
    for (String wrong : new String[] {";", ";guest", "guest;", "guest;;guest", "guest;guest;"}) {
      int position = wrong.startsWith(";") ? 0 : wrong.endsWith(";") ? wrong.length() : 6;
      Scene.refusedText(Check.ARGUMENT, wrong, position, 1, () -> Scene.office(1, 1, 1));
    }
  }

  @Says({"Promise 50: Throws `NoSuchElementException` if no text was malformed",
      "Promise 49: Throws `IllegalArgumentException` if the text is malformed; the error position "
          + "is kept"})
  static void errorPositionsFrom0To60() {
    SlidePark park = new SlidePark();
    Check.dueThrow("errorPosition", Check.NO_ELEMENT, park::errorPosition);
    Check.run(park, "slide 1 1");
    Check.dueThrow("errorPosition after a text", Check.NO_ELEMENT, park::errorPosition);
    Check.feed(park, "wait 0");
    Check.dueThrow("runCommands", Check.UNSUPPORTED, park::runCommands);
    Check.dueThrow("errorPosition after a failure", Check.NO_ELEMENT, park::errorPosition);
    for (int position : new int[] {60, 0, 59, 1, 0}) {
      Check.feed(park, (ELEVEN_WAITS + ";gues;").substring(0, position)
          + (position == 60 ? "" : "#"));
      Check.dueThrow("runCommands", Check.ARGUMENT, park::runCommands);
      Check.due("errorPosition", park.errorPosition(), position == 60 ? 59 : position);
    }
    Check.feed(park, ELEVEN_WAITS + ";wait;");
    Check.dueThrow("runCommands", Check.ARGUMENT, park::runCommands);
    Check.due("errorPosition at the end of a full buffer", park.errorPosition(), 60);
    Check.run(park, "wait");
    Check.due("errorPosition after a later text", park.errorPosition(), 60);
  }

  @Says({"Promise 51: Throws `NoSuchElementException` if no command failed",
      "Promise 51: Returns the index of the command, counted from 0",
      "Promise 49: Throws `UnsupportedOperationException` if a command throws an exception; the "
          + "index of this command is kept as the failed command"})
  static void failedCommandsFrom0To11() {
    SlidePark park = new SlidePark();
    Check.dueThrow("failedCommand", Check.NO_ELEMENT, park::failedCommand);
    Check.run(park, "slide 1 1");
    Check.dueThrow("failedCommand after a text", Check.NO_ELEMENT, park::failedCommand);
    Check.feed(park, "wait 0;");
    Check.dueThrow("runCommands", Check.ARGUMENT, park::runCommands);
    Check.dueThrow("failedCommand after a malformed text", Check.NO_ELEMENT, park::failedCommand);
    for (int guest = 0; guest < 10; guest++) {
      park.addGuest();
    }
    for (int failed : new int[] {11, 0, 10, 1, 0}) {
      Check.feed(park, (ELEVEN_WAITS + ";").substring(0, 5 * failed) + "guest");
      Check.dueThrow("runCommands", Check.UNSUPPORTED, park::runCommands);
      Check.due("failedCommand", park.failedCommand(), failed);
      Check.due("minute", park.minute(), 0);
      Check.due("errorPosition stays", park.errorPosition(), 7);
    }
    Check.run(park, "wait");
    Check.due("failedCommand after a later text", park.failedCommand(), 0);
  }
}
