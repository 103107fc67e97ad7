/** Promises 52 and 53: the description of a slide. */
public final class WriteTest {
  public static void main(String[] args) {
    theExample();
    longestDescription();
    wrongInputs();
    outputIsNotPartOfTheState();
    Check.close("WriteTest");
  }

  private static void theExample() {
    SlidePark park = new SlidePark();
    park.buildSlide(4, 3);
    park.buildSlide(1, 9);
    park.addGuest();
    park.addGuest();
    Check.due("no bookings", Check.written(park, 0), "4m3c0w");
    Check.due("other slide", Check.written(park, 1), "1m9c0w");
    park.book(0, 0, 11);
    park.book(0, 1, 1);
    park.book(1, 0, 0);
    park.book(1, 0, 7);
    park.passMinutes(4);
    Check.due("the example", Check.written(park, 0), "4m3c2w 1@7 0@11");
    Check.due("other slide", Check.written(park, 1), "1m9c0w");
    park.passMinutes(5);
    Check.due("started", Check.written(park, 0), "4m3c0w 1@7 0@11");
  }

  private static void longestDescription() {
    SlidePark park = new SlidePark();
    park.buildSlide(9, 1);
    for (int i = 0; i < 10; i++) {
      park.addGuest();
    }
    for (int i = 0; i < 200; i++) {
      park.passMinutes(60);
    }
    StringBuilder want = new StringBuilder("9m1c0w");
    for (int i = 11; i >= 0; i--) {
      park.book(i % 10, 0, 12000 + 9 * i);
    }
    for (int i = 0; i < 12; i++) {
      want.append(' ').append(i % 10).append('@').append(12000 + 9 * i);
    }
    Check.due("twelve bookings", Check.written(park, 0), want.toString());
  }

  private static void wrongInputs() {
    SlidePark park = new SlidePark();
    Check.dueThrow("writeSlide(0)", Check.INDEX, () -> park.writeSlide(0));
    park.buildSlide(2, 5);
    Check.due("length", park.writeSlide(0), 6);
    for (int slide : new int[] {-1, 1, Integer.MIN_VALUE, Integer.MAX_VALUE}) {
      Check.dueThrow("writeSlide", Check.INDEX, () -> park.writeSlide(slide));
    }
    Check.due("the output stays when a call throws", park.outputChar(0), '2');
    for (int index : new int[] {-1, 6, 102, Integer.MIN_VALUE, Integer.MAX_VALUE}) {
      Check.dueThrow("outputChar(" + index + ")", Check.INDEX, () -> park.outputChar(index));
    }
    Check.due("outputChar(5)", park.outputChar(5), 'w');
  }

  private static void outputIsNotPartOfTheState() {
    SlidePark park = new SlidePark();
    park.buildSlide(2, 5);
    park.save();
    park.addGuest();
    park.book(0, 0, 3);
    Check.due("length", park.writeSlide(0), 10);
    park.undo();
    Check.due("after undo", park.outputChar(9), '3');
    park.restore();
    Check.due("after restore", park.outputChar(7), '0');
    Check.due("written anew", park.writeSlide(0), 6);
    Check.dueThrow("a shorter output", Check.INDEX, () -> park.outputChar(6));
    Check.due("writeSlide is not recorded", park.undoCount(), 0);
  }
}
