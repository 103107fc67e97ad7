/** "Errors": which of several exceptions is thrown, and that the refused call changes nothing. */
final class ErrorBounds {
  private ErrorBounds() {
  }

  /** Four slides, ten guests; guest 0 has 5 coins and 5 of the 12 bookings, slide 1 5 waiting. */
  private static SlidePark full() {
    SlidePark park = Scene.office(10, 1, 9, 1, 1, 1, 1, 1, 6);
    for (int i = 0; i < 5; i++) {
      park.book(0, 0, 10 + i);
    }
    for (int i = 0; i < 7; i++) {
      park.book(1, 2, 10 + i);
    }
    for (int guest = 2; guest < 7; guest++) {
      park.joinQueue(guest, 1);
    }
    return park;
  }

  private static SlidePark notFull() {
    SlidePark park = full();
    park.cancel(11);
    return park;
  }

  @Says({"Errors: A method that throws an exception leaves the state unchanged, unless its "
      + "description says otherwise.",
      "Errors: If several exceptions apply, the one listed first is thrown."})
  static void orderOfBuildSlide() {
    for (int wrong : new int[] {0, 10}) {
      Scene.refused(Check.ARGUMENT, "a fifth slide out of range", ErrorBounds::full,
          p -> p.buildSlide(wrong, 5));
      Scene.refused(Check.ARGUMENT, "a fifth slide out of range", ErrorBounds::full,
          p -> p.buildSlide(5, wrong));
    }
    Scene.refused(Check.STATE, "a fifth slide", ErrorBounds::full, p -> p.buildSlide(5, 5));
  }

  @Says("Errors: If several exceptions apply, the one listed first is thrown.")
  static void orderOfBook() {
    int[][] noIndex = {{10, 0, -1}, {10, 0, 10}, {-1, 3, 121}, {0, 4, -1}, {0, 4, 10}, {0, -1, 121},
        {10, 4, 0}};
    for (int[] call : noIndex) {
      dueBook(Check.INDEX, ErrorBounds::full, call[0], call[1], call[2]);
      dueBook(Check.INDEX, ErrorBounds::notFull, call[0], call[1], call[2]);
    }
    for (int start : new int[] {-1, 121}) {
      dueBook(Check.ARGUMENT, ErrorBounds::full, 2, 1, start);
      dueBook(Check.ARGUMENT, ErrorBounds::full, 0, 3, start);
      dueBook(Check.ARGUMENT, ErrorBounds::notFull, 0, 3, start);
    }
    // 12 bookings, too few coins, and another booking of the guest or the slide.
    dueBook(Check.STATE, ErrorBounds::full, 1, 1, 10);
    dueBook(Check.STATE, ErrorBounds::full, 2, 0, 10);
    dueBook(Check.STATE, ErrorBounds::notFull, 0, 3, 10);
    dueBook(Check.STATE, ErrorBounds::notFull, 0, 0, 10);
    dueBook(Check.UNSUPPORTED, ErrorBounds::notFull, 0, 1, 10);
    dueBook(Check.UNSUPPORTED, ErrorBounds::notFull, 2, 0, 10);
  }

  private static void dueBook(Class<?> want, Scene.Way way, int guest, int slide, int start) {
    Scene.refused(want, "book(" + guest + ", " + slide + ", " + start + ")", way,
        p -> p.book(guest, slide, start));
  }

  @Says("Errors: If several exceptions apply, the one listed first is thrown.")
  static void orderOfJoinQueue() {
    int[][] calls = {{10, 1}, {-1, 1}, {2, 4}, {2, -1}, {10, 4}};
    for (int[] call : calls) {
      Scene.refused(Check.INDEX, "joinQueue(" + call[0] + ", " + call[1] + ")", ErrorBounds::full,
          p -> p.joinQueue(call[0], call[1]));
    }
    Scene.refused(Check.STATE, "joinQueue(2, 1)", ErrorBounds::full, p -> p.joinQueue(2, 1));
    Scene.refused(Check.UNSUPPORTED, "joinQueue(7, 1)", ErrorBounds::full, p -> p.joinQueue(7, 1));
  }

  @Says("Errors: If several exceptions apply, the one listed first is thrown.")
  static void orderOfQuestions() {
    for (int slide : new int[] {-1, 4}) {
      for (int position : new int[] {-1, 5}) {
        Scene.refused(Check.INDEX, "queuedGuest", ErrorBounds::full,
            p -> p.queuedGuest(slide, position));
      }
      for (int start : new int[] {-1, 121}) {
        Scene.refused(Check.INDEX, "isFree", ErrorBounds::full, p -> p.isFree(slide, start));
        Scene.refused(Check.INDEX, "firstFree", ErrorBounds::full, p -> p.firstFree(slide, start));
        Scene.refused(Check.INDEX, "firstFreeByGaps", ErrorBounds::full,
            p -> p.firstFreeByGaps(slide, start));
      }
    }
  }

  @Says({"Errors: If several exceptions apply, the one listed first is thrown.",
      "Promise 49: If a command throws an exception, the state from before the call is kept."})
  static void orderOfRunCommands() {
    // A text with both faults is malformed; no command of it is tried.
    Scene.refusedText(Check.ARGUMENT, "leave 9;", 8, 1, ErrorBounds::full);
    Scene.refusedText(Check.ARGUMENT, "cancel 0;leave 9;x", 17, 1, ErrorBounds::full);
    // Of two commands that would throw, the first is kept.
    Scene.refusedText(Check.UNSUPPORTED, "cancel 0;leave 9;wait 0", 4, 1, ErrorBounds::full);
    Scene.refusedText(Check.UNSUPPORTED, "guest;leave 9;wait 0", 4, 0, ErrorBounds::full);
    Scene.refusedText(Check.UNSUPPORTED, "cancel 0;cancel 0;leave 2;wait 60;guest", 4, 4,
        ErrorBounds::full);
  }
}
