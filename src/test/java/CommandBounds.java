/** Boundaries of the form of commands and of the numbers in them: "Commands" and promise 49. */
final class CommandBounds {
  private CommandBounds() {
  }

  /** The errors before are at position 4 (after the scene's own text) and in command 1. */
  private static SlidePark office() {
    SlidePark park = Scene.office(4, 2, 9, 1, 1);
    park.book(0, 0, 0);
    park.book(1, 1, 120);
    park.joinQueue(2, 0);
    return park;
  }

  /** Malformed alone, behind another command and before one; the position stays in its command. */
  private static void malformed(String text, int position) {
    Scene.refusedText(Check.ARGUMENT, text, position, 1, CommandBounds::office);
    Scene.refusedText(Check.ARGUMENT, "guest;" + text, 6 + position, 1, CommandBounds::office);
    Scene.refusedText(Check.ARGUMENT, text + ";guest", position, 1, CommandBounds::office);
  }

  /** Well-formed, but the command throws: alone, and as the command with index 1. */
  private static void fails(String text) {
    fails(text, CommandBounds::office);
  }

  private static void fails(String text, Scene.Way way) {
    Scene.refusedText(Check.UNSUPPORTED, text, 4, 0, way);
    Scene.refusedText(Check.UNSUPPORTED, "guest;" + text, 4, 1, way);
  }

  private static SlidePark after(String text) {
    return after(text, CommandBounds::office);
  }

  private static SlidePark after(String text, Scene.Way way) {
    SlidePark park = way.make();
    Check.dueThrow("what the scene has fed", Check.ARGUMENT, park::runCommands);
    Check.feed(park, text);
    Check.due("runCommands of " + text, Check.outcome(park::runCommands),
        text.replaceAll("[^;]", "").length() + 1);
    Check.due("feed after " + text, park.feed('x'), 1);
    return park;
  }

  @Says("Commands: \"slide\", a blank, a duration, a blank and a price builds a slide.")
  static void slide() {
    for (int number = 1; number <= 9; number++) {
      SlidePark park = after("slide " + number + " " + (10 - number));
      Check.due("slideCount", park.slideCount(), 3);
      Check.due("duration", park.duration(2), number);
      Check.due("price", park.price(2), 10 - number);
    }
    fails("slide 0 1");
    fails("slide 1 0");
    fails("slide 1 1", () -> Scene.office(1, 1, 1, 1, 1, 1, 1, 1, 1));
    after("slide 1 1", () -> Scene.office(1, 1, 1, 1, 1, 1, 1));
    malformed("slide", 5);
    malformed("slide ", 6);
    malformed("slide 1", 7);
    malformed("slide 1 ", 8);
    malformed("slide1 1", 5);
    malformed("slide  1 1", 6);
    malformed("slide 1  1", 8);
    malformed("slide 1 1 ", 9);
    malformed("slide 1 1 1", 9);
    malformed(" slide 1 1", 0);
  }

  @Says("Commands: \"guest\" lets a guest come.")
  static void guest() {
    Check.due("guestCount", after("guest").guestCount(), 5);
    after("guest", () -> Scene.office(9, 1, 1));
    Scene.refusedText(Check.UNSUPPORTED, "guest", 4, 0, () -> Scene.office(10, 1, 1));
    malformed("gues", 4);
    malformed("guest ", 5);
    malformed("guest 1", 5);
    malformed("guests", 5);
    malformed(" guest", 0);
  }

  @Says("Commands: \"book\", a blank, a guest, a blank, a slide, a blank and a start makes a "
      + "booking.")
  static void book() {
    SlidePark park = after("book 3 1 20");
    Check.due("bookedGuest", park.bookedGuest(2), 3);
    Check.due("bookedSlide", park.bookedSlide(2), 1);
    Check.due("start", park.start(2), 20);
    after("book 0 0 2");
    fails("book 0 0 1");
    after("book 3 0 120");
    fails("book 3 0 121");
    fails("book 3 0 122");
    fails("book 4 0 20", () -> Scene.office(3, 1, 1));
    fails("book 0 2 20");
    fails("book 9 0 20");
    fails("book 0 9 20");
    Scene.Way later = () -> {
      SlidePark waited = office();
      waited.passMinutes(5);
      return waited;
    };
    after("book 3 1 5", later);
    fails("book 3 1 4", later);
    after("book 3 1 125", later);
    malformed("book", 4);
    malformed("book ", 5);
    malformed("book 0", 6);
    malformed("book 0 ", 7);
    malformed("book 0 0", 8);
    malformed("book 0 0 ", 9);
    malformed("book 0 0 1 ", 10);
    malformed("book 0 0  1", 9);
    malformed("book 0 0 -1", 9);
  }

  @Says("Commands: \"cancel\", a blank and a booking cancels one.")
  static void cancel() {
    SlidePark park = after("cancel 1");
    Check.due("bookingCount", park.bookingCount(), 1);
    Check.due("coins(1)", park.coins(1), 50);
    after("cancel 01");
    fails("cancel 0");
    fails("cancel 2");
    fails("cancel 99");
    Scene.Way twelve = () -> {
      SlidePark full = Scene.office(2, 1, 1);
      for (int i = 0; i < 12; i++) {
        full.book(1, 0, 20 + i);
      }
      return full;
    };
    Check.due("bookingCount", after("cancel 11", twelve).bookingCount(), 11);
    Scene.refusedText(Check.UNSUPPORTED, "cancel 12", 4, 0, twelve);
    Scene.refusedText(Check.UNSUPPORTED, "cancel 11;cancel 11", 4, 1, twelve);
    malformed("cancel", 6);
    malformed("cancel ", 7);
    malformed("cancel1", 6);
    malformed("cancel  1", 7);
    malformed("cancel 1 ", 8);
  }

  @Says("Commands: \"queue\", a blank, a guest, a blank and a slide lets a guest join a queue.")
  static void queue() {
    SlidePark park = after("queue 3 1");
    Check.due("queueOf(3)", park.queueOf(3), 1);
    Check.due("queueLength(0)", park.queueLength(0), 1);
    fails("queue 2 1");
    fails("queue 9 0");
    fails("queue 3 2");
    Scene.Way fourWait = () -> {
      SlidePark full = Scene.office(7, 1, 1, 1, 1);
      for (int guest = 0; guest < 4; guest++) {
        full.joinQueue(guest, 0);
      }
      return full;
    };
    Check.due("queueLength", after("queue 4 0", fourWait).queueLength(0), 5);
    Scene.refusedText(Check.UNSUPPORTED, "queue 4 0;queue 5 0", 4, 1, fourWait);
    malformed("queue", 5);
    malformed("queue ", 6);
    malformed("queue 3", 7);
    malformed("queue 3 ", 8);
    malformed("queue 3 1 ", 9);
  }

  @Says("Commands: \"leave\", a blank and a guest lets a guest leave a queue.")
  static void leave() {
    Check.due("queueLength(0)", after("leave 2").queueLength(0), 0);
    Scene.refusedText(Check.UNSUPPORTED, "leave 1", 4, 0, CommandBounds::office);
    Scene.refusedText(Check.UNSUPPORTED, "leave 3", 4, 0, CommandBounds::office);
    Scene.refusedText(Check.UNSUPPORTED, "leave 4", 4, 0, CommandBounds::office);
    Scene.refusedText(Check.UNSUPPORTED, "leave 2;leave 2", 4, 1, CommandBounds::office);
    malformed("leave", 5);
    malformed("leave ", 6);
    malformed("leave2", 5);
    malformed("leave 2 ", 7);
  }

  @Says("Commands: \"wait\", optionally followed by a blank and a number, lets this number of "
      + "minutes pass, or one minute.")
  static void waitForMinutes() {
    Check.due("minute", after("wait").minute(), 1);
    Check.due("minute", after("wait;wait").minute(), 2);
    Check.due("minute", after("wait 5;wait").minute(), 6);
    for (int minutes = 1; minutes <= 60; minutes++) {
      Check.due("minute", after("wait " + minutes).minute(), minutes);
    }
    fails("wait 0");
    fails("wait 00");
    for (int minutes = 61; minutes <= 99; minutes++) {
      Scene.refusedText(Check.UNSUPPORTED, "wait " + minutes, 4, 0, CommandBounds::office);
    }
    malformed("wait ", 5);
    malformed("wait  1", 5);
    malformed("wait1", 4);
    malformed("wait 1 ", 6);
    malformed("wait -1", 5);
  }

  @Says("Commands: Starts have one to four digits")
  static void startsOfOneToFourDigits() {
    for (String start : new String[] {"7", "07", "007", "0007"}) {
      Check.due("start(2)", after("book 3 1 " + start).start(2), 7);
    }
    for (String start : new String[] {"9", "99", "999", "9999"}) {
      SlidePark park = new SlidePark();
      Check.feed(park, "book 0 0 " + start);
      Check.dueThrow("no guest", Check.UNSUPPORTED, park::runCommands);
    }
    malformed("book 3 1 ", 9);
    malformed("book 3 1 00007", 13);
    malformed("book 3 1 12345", 13);
    malformed("book 3 1 1234567", 13);
    SlidePark late = new SlidePark();
    Check.run(late, "slide 1 1;guest;guest");
    for (int i = 0; i < 165; i++) {
      late.passMinutes(60);
    }
    Check.due("the latest start of four digits", Check.run(late, "book 0 0 9999"), 1);
    Check.due("start(0)", late.start(0), 9999);
  }

  @Says("Commands: bookings and numbers of minutes have one or two")
  static void bookingsAndMinutesOfOneOrTwoDigits() {
    after("cancel 1");
    after("cancel 01");
    malformed("cancel ", 7);
    malformed("cancel 001", 9);
    malformed("cancel 100", 9);
    Check.due("minute", after("wait 7").minute(), 7);
    Check.due("minute", after("wait 07").minute(), 7);
    Check.due("minute", after("wait 59").minute(), 59);
    malformed("wait ", 5);
    malformed("wait 007", 7);
    malformed("wait 100", 7);
  }

  @Says("Commands: all other numbers are single digits.")
  static void otherNumbersOfOneDigit() {
    malformed("slide 01 1", 7);
    malformed("slide 10 1", 7);
    malformed("slide 1 01", 9);
    malformed("slide 1 10", 9);
    malformed("book 03 1 7", 6);
    malformed("book 10 1 7", 6);
    malformed("book 3 01 7", 8);
    malformed("queue 03 1", 7);
    malformed("queue 3 01", 9);
    malformed("leave 02", 7);
    malformed("leave 10", 7);
    for (char digit : new char[] {'0' - 1, '9' + 1, '0' + 256, 'a', 0x660, 0xff11}) {
      malformed("slide " + digit + " 1", 6);
      malformed("slide 1 " + digit, 8);
      malformed("book 0 0 1" + digit, 10);
      malformed("wait 1" + digit, 6);
      malformed("wait " + digit, 5);
    }
  }

  @Says({"Commands: A text is malformed if it does not have this form.",
      "Commands: Its error position is the index of the first character that cannot continue a "
          + "well-formed text, or the length of the text if the text ends too early."})
  static void theFirstOfSeveralErrorsOrTheEnd() {
    String text = "slide 3 3;book 0 0 12;wait;leave 1";
    for (int length = 0; length <= text.length(); length++) {
      String cut = text.substring(0, length);
      boolean isWhole = cut.matches("slide 3 3(;book 0 0 12?(;wait(;leave 1)?)?)?");
      if (!isWhole) {
        Scene.refusedText(Check.ARGUMENT, cut, length, 1, CommandBounds::office);
      }
      Scene.refusedText(Check.ARGUMENT, cut + "#", length, 1, CommandBounds::office);
      Scene.refusedText(Check.ARGUMENT, cut + "##;;x", length, 1, CommandBounds::office);
    }
  }

  @Says("Commands: Keywords are compared letter by letter.")
  static void everyLetterOfAKeyword() {
    for (String keyword : new String[] {"slide", "guest", "book", "cancel", "queue", "leave",
        "wait"}) {
      for (int i = 0; i < keyword.length(); i++) {
        char letter = keyword.charAt(i);
        for (char other : new char[] {(char) (letter - 32), (char) (letter + 1),
            (char) (letter - 1), (char) (letter + 256), ' ', ';', '0'}) {
          String wrong = keyword.substring(0, i) + other + keyword.substring(i + 1) + " 1 1";
          // With its first letter replaced, the text may begin as another keyword does.
          boolean startsAnother = i == 0 && "sgbcqlw".indexOf(other) >= 0;
          if (!startsAnother) {
            Scene.refusedText(Check.ARGUMENT, wrong, i, 1, CommandBounds::office);
          }
        }
        Scene.refusedText(Check.ARGUMENT, keyword.substring(0, i), i, 1, CommandBounds::office);
      }
    }
    Scene.refusedText(Check.ARGUMENT, "sguest", 1, 1, CommandBounds::office);
    Scene.refusedText(Check.ARGUMENT, "wguest", 1, 1, CommandBounds::office);
    Scene.refusedText(Check.ARGUMENT, "guestguest", 5, 1, CommandBounds::office);
  }
}
