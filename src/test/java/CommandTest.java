/** Promises 48 to 51: the input buffer, the form of texts, and carrying them out. */
public final class CommandTest {
  private static final String[] FORMED = {
    "slide 1 2", "guest", "book 0 0 0", "book 0 0 00", "book 0 0 012", "book 0 0 0120",
    "cancel 0", "cancel 00", "queue 0 0", "leave 0", "wait", "wait 1", "wait 01", "wait 60"
  };

  public static void main(String[] args) {
    inputBuffer();
    wellFormedTexts();
    malformedTexts();
    everyWrongCharacter();
    everyCutText();
    carryingOut();
    failures();
    buffersAndErrorsAreIndependent();
    numbersOfCommands();
    Check.close("CommandTest");
  }

  private static void inputBuffer() {
    SlidePark park = new SlidePark();
    char[] odd = {0, ' ', '\n', 127, 128, 255, 256, '\uffff'};
    for (int i = 0; i < 60; i++) {
      Check.due("feed", park.feed(odd[i % odd.length]), i + 1);
    }
    Check.dueThrowUnchanged(park, "the 61st character", Check.STATE, () -> park.feed('g'));
    Check.dueThrowUnchanged(park, "runCommands", Check.ARGUMENT, park::runCommands);
    Check.due("errorPosition", park.errorPosition(), 0);
    Check.due("the buffer is empty afterwards", park.feed('g'), 1);
    Check.due("feed is not recorded", park.undoCount(), 0);
  }

  /** A well-formed text either is carried out or fails in a command; it is not malformed. */
  private static void wellFormedTexts() {
    for (String one : FORMED) {
      dueFormed(one);
      for (String other : FORMED) {
        dueFormed(one + ";" + other);
      }
    }
    String all = "book 9 9 9999;cancel 99;queue 9 9;leave 9;wait 99;slide 0 0";
    Check.due("length", all.length() <= 60, true);
    dueFormed(all);
  }

  private static void dueFormed(String text) {
    SlidePark park = new SlidePark();
    Check.feed(park, text);
    Object outcome = Check.outcome(park::runCommands);
    Check.due(text + " is not malformed", outcome.equals("throws.IllegalArgumentException"), false);
    Check.dueThrow("errorPosition of " + text, Check.NO_ELEMENT, park::errorPosition);
    Check.due("the buffer is empty after " + text, park.feed('x'), 1);
  }

  private static void dueMalformed(String text, int position) {
    SlidePark park = new SlidePark();
    park.addGuest();
    Check.feed(park, text);
    Check.dueThrowUnchanged(park, "runCommands of " + text, Check.ARGUMENT, park::runCommands);
    Check.due("errorPosition of " + text, park.errorPosition(), position);
    Check.dueThrow("failedCommand of " + text, Check.NO_ELEMENT, park::failedCommand);
    Check.due("the buffer is empty after " + text, park.feed('x'), 1);
  }

  private static void malformedTexts() {
    dueMalformed("", 0);
    dueMalformed(" ", 0);
    dueMalformed(";", 0);
    dueMalformed("x", 0);
    dueMalformed("Guest", 0);
    dueMalformed("gUest", 1);
    dueMalformed("guest;", 6);
    dueMalformed("guest;;guest", 6);
    dueMalformed("guest guest", 5);
    dueMalformed("guest ;guest", 5);
    dueMalformed("guests", 5);
    dueMalformed("guest; guest", 6);
    dueMalformed("guest,guest", 5);
    dueMalformed("guess", 4);
    dueMalformed("gues;", 4);
    dueMalformed("slide", 5);
    dueMalformed("slide ", 6);
    dueMalformed("slide 1", 7);
    dueMalformed("slide 1 ", 8);
    dueMalformed("slide 12 3", 7);
    dueMalformed("slide 1 23", 9);
    dueMalformed("slide  1 2", 6);
    dueMalformed("slide 1  2", 8);
    dueMalformed("slide -1 2", 6);
    dueMalformed("slide 1;2", 7);
    dueMalformed("slide1 2", 5);
    dueMalformed("book 0 0 12345", 13);
    dueMalformed("book 0 0 00000", 13);
    dueMalformed("book 00 0 1", 6);
    dueMalformed("book 0 00 1", 8);
    dueMalformed("book 0 0", 8);
    dueMalformed("book 0 0 ", 9);
    dueMalformed("book 0 0 1 ", 10);
    dueMalformed("book 0 0 +1", 9);
    dueMalformed("cancel", 6);
    dueMalformed("cancel 000", 9);
    dueMalformed("cancel 1 ", 8);
    dueMalformed("queue 0 10", 9);
    dueMalformed("queue 10 0", 7);
    dueMalformed("queu", 4);
    dueMalformed("leave 10", 7);
    dueMalformed("leave", 5);
    dueMalformed("wait ", 5);
    dueMalformed("wait ;guest", 5);
    dueMalformed("wait 000", 7);
    dueMalformed("wait 100", 7);
    dueMalformed("wait x", 5);
    dueMalformed("waits", 4);
    dueMalformed("wait\t1", 4);
    dueMalformed("wait1", 4);
    dueMalformed("guest;guest;wai", 15);
    dueMalformed("guest;guest;waiT", 15);
    dueMalformed("slide 1 " + (char) ('0' + 256), 8);
    dueMalformed((char) ('g' + 256) + "uest", 0);
    dueMalformed("slide 1 /", 8);
    dueMalformed("slide 1 :", 8);
    dueMalformed("wait;wait;wait;wait;wait;wait;wait;wait;wait;wait;wait;wait;", 60);
  }

  /** A character that fits nowhere, put in place of any other, is where the text goes wrong. */
  private static void everyWrongCharacter() {
    for (String text : FORMED) {
      String two = "guest;" + text;
      for (int i = 0; i < two.length(); i++) {
        dueMalformed(two.substring(0, i) + "#" + two.substring(i + 1), i);
      }
      dueMalformed(two + "#", two.length());
    }
  }

  /** A text that is cut off goes wrong at its end, unless what is left is well-formed. */
  private static void everyCutText() {
    for (String text : FORMED) {
      for (int i = 0; i < text.length(); i++) {
        String cut = text.substring(0, i);
        boolean formed = false;
        for (String other : FORMED) {
          formed = formed || other.replaceAll("\\d", "0").equals(cut.replaceAll("\\d", "0"));
        }
        if (!formed && !cut.matches("book \\d \\d \\d{1,4}")) {
          dueMalformed(cut, i);
        }
      }
    }
  }

  private static void carryingOut() {
    SlidePark park = new SlidePark();
    Check.due("one text", Check.run(park, "slide 4 3;slide 9 2;guest;guest;book 1 0 0007"), 5);
    Check.due("duration(0)", park.duration(0), 4);
    Check.due("price(0)", park.price(0), 3);
    Check.due("duration(1)", park.duration(1), 9);
    Check.due("price(1)", park.price(1), 2);
    Check.due("bookedGuest(0)", park.bookedGuest(0), 1);
    Check.due("bookedSlide(0)", park.bookedSlide(0), 0);
    Check.due("start(0)", park.start(0), 7);
    Check.due("one call to undo", park.undoCount(), 1);
    Check.due("queue", Check.run(park, "queue 1 0;queue 0 1"), 2);
    Check.due("queueOf(1)", park.queueOf(1), 0);
    Check.due("queueOf(0)", park.queueOf(0), 1);
    Check.due("leave", Check.run(park, "leave 1"), 1);
    Check.due("queueLength(0)", park.queueLength(0), 0);
    Check.due("cancel", Check.run(park, "cancel 0"), 1);
    Check.due("bookingCount", park.bookingCount(), 0);
    Check.due("wait", Check.run(park, "wait"), 1);
    Check.due("minute", park.minute(), 1);
    Check.due("wait 60", Check.run(park, "wait 60"), 1);
    Check.due("minute", park.minute(), 61);
    Check.due("wait 5, then wait for one", Check.run(park, "wait 5;wait"), 2);
    Check.due("minute", park.minute(), 67);
    Check.due("wait 09", Check.run(park, "wait 09"), 1);
    Check.due("minute", park.minute(), 76);
    Check.due("start of the present minute", Check.run(park, "book 1 1 76"), 1);
    Check.due("start of three digits", Check.run(park, "book 1 0 196"), 1);
    Check.due("start(1)", park.start(1), 196);
    for (int i = 0; i < 16; i++) {
      park.passMinutes(60);
    }
    Check.due("start of four digits", Check.run(park, "book 0 0 1037"), 1);
    Check.due("start(0)", park.start(0), 1037);
  }

  private static void dueFailed(SlidePark park, String text, int command) {
    Check.feed(park, text);
    Check.dueThrowUnchanged(park, "runCommands of " + text, Check.UNSUPPORTED, park::runCommands);
    Check.due("failedCommand of " + text, park.failedCommand(), command);
    Check.due("the buffer is empty after " + text, park.feed('x'), 1);
    Check.dueThrow("a text of one x", Check.ARGUMENT, park::runCommands);
  }

  private static void failures() {
    SlidePark park = new SlidePark();
    Check.run(park, "slide 2 9;guest;guest;book 0 0 0;book 0 0 50");
    dueFailed(park, "slide 0 1", 0);
    dueFailed(park, "guest;slide 1 0", 1);
    dueFailed(park, "slide 1 1;slide 1 1;slide 1 1;slide 1 1", 3);
    dueFailed(park, "guest;book 3 0 0", 1);
    dueFailed(park, "book 0 1 0", 0);
    dueFailed(park, "wait 5;book 0 0 4", 1);
    dueFailed(park, "book 0 0 121", 0);
    dueFailed(park, "book 0 0 9999", 0);
    dueFailed(park, "book 1 0 1", 0);
    dueFailed(park, "book 1 0 2;book 1 0 4;book 1 0 6;book 1 0 8;book 1 0 7", 4);
    dueFailed(park, "cancel 2", 0);
    dueFailed(park, "cancel 99", 0);
    dueFailed(park, "cancel 1;cancel 0", 1);
    dueFailed(park, "queue 2 0", 0);
    dueFailed(park, "queue 0 1", 0);
    dueFailed(park, "queue 0 0;queue 0 0", 1);
    dueFailed(park, "leave 0", 0);
    dueFailed(park, "queue 1 0;leave 1;leave 1", 2);
    dueFailed(park, "leave 7", 0);
    dueFailed(park, "wait 0", 0);
    dueFailed(park, "wait;wait 61", 1);
    dueFailed(park, "wait 60;guest;wait 99", 2);
    Check.due("what would have failed passes after all", Check.run(park, "wait 60"), 1);
    Check.due("minute", park.minute(), 60);
    SlidePark full = new SlidePark();
    for (int i = 0; i < 9; i++) {
      full.addGuest();
    }
    dueFailed(full, "guest;guest", 1);
    SlidePark queues = new SlidePark();
    Check.run(queues, "slide 1 1;guest;guest;guest;guest;guest;guest");
    Check.run(queues, "queue 0 0;queue 1 0;queue 2 0;queue 3 0");
    dueFailed(queues, "queue 4 0;queue 5 0", 1);
  }

  private static void buffersAndErrorsAreIndependent() {
    SlidePark park = new SlidePark();
    Check.feed(park, "guest;x");
    Check.dueThrow("malformed", Check.ARGUMENT, park::runCommands);
    Check.due("errorPosition", park.errorPosition(), 6);
    Check.feed(park, "guest;leave 0");
    Check.dueThrow("failed", Check.UNSUPPORTED, park::runCommands);
    Check.due("failedCommand", park.failedCommand(), 1);
    Check.due("errorPosition stays", park.errorPosition(), 6);
    Check.feed(park, "gg");
    Check.dueThrow("malformed", Check.ARGUMENT, park::runCommands);
    Check.due("the latest errorPosition", park.errorPosition(), 1);
    Check.due("failedCommand stays", park.failedCommand(), 1);
    Check.due("run", Check.run(park, "guest;slide 1 1"), 2);
    Check.due("errorPosition stays when a text is carried out", park.errorPosition(), 1);
    Check.due("failedCommand stays when a text is carried out", park.failedCommand(), 1);
    park.feed('w');
    park.save();
    park.addGuest();
    park.feed('a');
    Check.due("undo", park.undo(), 1);
    park.feed('i');
    park.restore();
    Check.due("the buffer is not part of an undone or saved state", park.feed('t'), 4);
    Check.due("run", park.runCommands(), 1);
    Check.due("minute", park.minute(), 1);
    Check.due("errorPosition", park.errorPosition(), 1);
    Check.due("undo", park.undo(), 0);
    Check.due("failedCommand", park.failedCommand(), 1);
    Check.feed(park, "leave 0");
    Check.dueThrow("failed", Check.UNSUPPORTED, park::runCommands);
    Check.due("the latest failedCommand", park.failedCommand(), 0);
  }

  private static void numbersOfCommands() {
    SlidePark park = new SlidePark();
    StringBuilder text = new StringBuilder("wait");
    for (int commands = 1; commands <= 12; commands++) {
      Check.due("number of commands", Check.run(park, text.toString()), commands);
      Check.due("minute", park.minute(), commands * (commands + 1) / 2);
      text.append(";wait");
    }
    Check.due("a full buffer", Check.run(park, "guest;guest;guest;guest;guest;guest;guest;"
        + "guest;guest;wait 1"), 10);
    Check.due("undoCount", park.undoCount(), 8);
  }
}
