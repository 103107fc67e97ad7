import java.util.Arrays;

/** Boundaries of the finishes that are kept: promises 33 to 38. */
final class FinishBounds {
  private FinishBounds() {
  }

  /** Ride i is of guest i % 3 on slide i % 2, and finishes in minute i + 1. */
  private static SlidePark finishes(int count) {
    SlidePark park = Scene.office(3, 1, 1, 1, 1);
    for (int i = 0; i < count; i++) {
      park.book(i % 3, i % 2, i);
      park.passMinutes(1);
    }
    return park;
  }

  @Says({"Finishes: A finish consists of a guest, a slide, and the present minute at that time.",
      "Finishes: The latest 16 finishes are kept.", "Promise 33: Returns the number, 0 to 16."})
  static void sixteenFinishesAreKeptAndNoSeventeenth() {
    for (int count : new int[] {0, 1, 15, 16, 17, 18, 31, 32, 33, 34, 40}) {
      SlidePark park = finishes(count);
      int kept = Math.min(16, count);
      Check.due("finishCount of " + count, park.finishCount(), kept);
      for (int back = 0; back < kept; back++) {
        int ride = count - 1 - back;
        String what = "(" + back + ") of " + count;
        Check.due("finishedGuest" + what, park.finishedGuest(back), ride % 3);
        Check.due("finishedSlide" + what, park.finishedSlide(back), ride % 2);
        Check.due("finishMinute" + what, park.finishMinute(back), ride + 1);
      }
    }
  }

  @Says("Finishes: The latest 16 finishes are kept.")
  static void undoBringsBackTheFinishThatWasPushedOut() {
    SlidePark park = finishes(16);
    String view = View.of(park);
    park.book(0, 0, 16);
    park.passMinutes(1);
    Check.due("the oldest finish", park.finishMinute(15), 2);
    park.undo();
    park.undo();
    Check.due("the oldest finish after undo", park.finishMinute(15), 1);
    Check.due("the state after undo", View.of(park), view);
  }

  @Says("Promise 34: Throws `NoSuchElementException` if no such finish is kept")
  static void guestOfNoFinish() {
    dueOnlyKept("finishedGuest", SlidePark::finishedGuest);
  }

  @Says("Promise 35: Throws `NoSuchElementException` if no such finish is kept")
  static void slideOfNoFinish() {
    dueOnlyKept("finishedSlide", SlidePark::finishedSlide);
  }

  @Says("Promise 36: Throws `NoSuchElementException` if no such finish is kept")
  static void minuteOfNoFinish() {
    dueOnlyKept("finishMinute", SlidePark::finishMinute);
  }

  private static void dueOnlyKept(String what, Scene.ActAt act) {
    for (int count : new int[] {0, 1, 15, 16, 17, 33}) {
      Scene.onlyBelow(Math.min(16, count), Check.NO_ELEMENT, what + " of " + count + " finishes",
          () -> finishes(count), act);
    }
  }

  /** For each number, so many rides finish together, one minute after the other. */
  private static SlidePark together(int... numbers) {
    SlidePark park = Scene.office(4, 1, 1, 1, 1, 1, 1, 1, 1);
    for (int number : numbers) {
      for (int i = 0; i < number; i++) {
        park.book(i, i, park.minute());
      }
      park.passMinutes(1);
    }
    return park;
  }

  private static void duePairs(int want, int... numbers) {
    SlidePark park = together(numbers);
    String what = " of runs " + Arrays.toString(numbers);
    Check.due("photoFinishes" + what, park.photoFinishes(), want);
    Check.due("photoFinishesByRuns" + what, park.photoFinishesByRuns(), want);
    Check.due("isConsistent" + what, park.isConsistent(), true);
  }

  @Says({"Promise 37: Returns the number of pairs of kept finishes that have the same minute",
      "Promise 38: Returns the same number as photoFinishes, computed from the lengths of the runs "
          + "of finishes with the same minute."})
  static void pairsOfOneMinuteAlone() {
    duePairs(0);
    duePairs(0, 1);
    duePairs(0, 1, 1);
    duePairs(0, 1, 0, 1);
    duePairs(1, 2);
    duePairs(3, 3);
    duePairs(6, 4);
    duePairs(2, 2, 2);
    duePairs(1, 1, 2);
    duePairs(1, 2, 1);
    duePairs(10, 1, 2, 3, 4);
    duePairs(10, 4, 3, 2, 1);
    duePairs(24, 4, 4, 4, 4);
  }

  @Says("Promise 37: Returns the number of pairs of kept finishes that have the same minute")
  static void pairsOfKeptFinishesAlone() {
    // Of the first four finishes 3, 2, 1 and none are kept.
    duePairs(21, 4, 4, 4, 4, 1);
    duePairs(20, 4, 4, 4, 4, 2);
    duePairs(21, 4, 4, 4, 4, 3);
    duePairs(24, 4, 4, 4, 4, 4);
    // Of a pair and single finishes, 16 in all, the pair is kept; of 17 one finish of it.
    for (int singles = 13; singles <= 16; singles++) {
      int[] numbers = new int[1 + singles];
      Arrays.fill(numbers, 1);
      numbers[0] = 2;
      duePairs(singles <= 14 ? 1 : 0, numbers);
    }
  }
}
