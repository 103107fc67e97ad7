/** Promises 2, 10 to 14, 44 and 46: building slides, and what is asked of them. */
public final class SlidesTest {
  public static void main(String[] args) {
    rangesOfBuilding();
    limitOfSlides();
    factsOfSlides();
    riders();
    orderByWetness();
    busyShare();
    Check.close("SlidesTest");
  }

  private static void rangesOfBuilding() {
    SlidePark park = new SlidePark();
    int[][] wrong = {{0, 5}, {10, 5}, {5, 0}, {5, 10}, {-1, 5}, {5, -1}, {Integer.MIN_VALUE, 5},
        {5, Integer.MAX_VALUE}, {0, 0}};
    for (int[] pair : wrong) {
      Check.dueThrowUnchanged(park, "buildSlide(" + pair[0] + ", " + pair[1] + ")",
          Check.ARGUMENT, () -> park.buildSlide(pair[0], pair[1]));
    }
    Check.due("slideCount after wrong calls", park.slideCount(), 0);
    Check.due("least", park.buildSlide(1, 1), 0);
    Check.due("most", park.buildSlide(9, 9), 1);
    Check.due("least and most", park.buildSlide(1, 9), 2);
    Check.due("most and least", park.buildSlide(9, 1), 3);
    Check.due("undoCount", park.undoCount(), 4);
  }

  private static void limitOfSlides() {
    SlidePark park = new SlidePark();
    for (int i = 0; i < 4; i++) {
      Check.due("slideCount", park.slideCount(), i);
      Check.due("buildSlide", park.buildSlide(2 + i, 9 - i), i);
    }
    Check.dueThrowUnchanged(park, "a fifth slide", Check.STATE, () -> park.buildSlide(1, 1));
    Check.dueThrowUnchanged(park, "a fifth wrong slide", Check.ARGUMENT,
        () -> park.buildSlide(0, 1));
    Check.due("slideCount", park.slideCount(), 4);
  }

  private static void factsOfSlides() {
    SlidePark park = new SlidePark();
    park.buildSlide(4, 3);
    park.buildSlide(2, 9);
    Check.due("duration(0)", park.duration(0), 4);
    Check.due("duration(1)", park.duration(1), 2);
    Check.due("price(0)", park.price(0), 3);
    Check.due("price(1)", park.price(1), 9);
    Check.due("wetness(0)", park.wetness(0), 0);
    Check.due("wetness(1)", park.wetness(1), 0);
    for (int slide : new int[] {-1, 2, 4, Integer.MIN_VALUE, Integer.MAX_VALUE}) {
      Check.dueThrow("duration", Check.INDEX, () -> park.duration(slide));
      Check.dueThrow("price", Check.INDEX, () -> park.price(slide));
      Check.dueThrow("wetness", Check.INDEX, () -> park.wetness(slide));
      Check.dueThrow("rider", Check.INDEX, () -> park.rider(slide));
    }
  }

  private static void riders() {
    SlidePark park = new SlidePark();
    park.buildSlide(3, 1);
    park.buildSlide(1, 1);
    park.addGuest();
    park.addGuest();
    park.book(1, 0, 2);
    park.book(0, 1, 3);
    int[] first = {-1, -1, 1, 1, 1, -1, -1};
    int[] second = {-1, -1, -1, 0, -1, -1, -1};
    for (int minute = 0; minute < first.length; minute++) {
      dueRider(park, 0, first[minute]);
      dueRider(park, 1, second[minute]);
      park.passMinutes(1);
    }
  }

  private static void dueRider(SlidePark park, int slide, int guest) {
    String what = "rider(" + slide + ") in minute " + park.minute();
    if (guest < 0) {
      Check.dueThrow(what, Check.NO_ELEMENT, () -> park.rider(slide));
    } else {
      Check.due(what, park.rider(slide), guest);
    }
  }

  private static void orderByWetness() {
    SlidePark park = new SlidePark();
    Check.dueThrow("slideByWetness(0)", Check.NO_ELEMENT, () -> park.slideByWetness(0));
    for (int i = 0; i < 4; i++) {
      park.buildSlide(1, 1);
    }
    dueOrder(park, 0, 1, 2, 3);
    park.addGuest();
    park.addGuest();
    park.book(0, 2, 0);
    park.book(1, 3, 0);
    park.passMinutes(1);
    dueOrder(park, 2, 3, 0, 1);
    park.book(0, 3, 1);
    park.passMinutes(1);
    dueOrder(park, 3, 2, 0, 1);
    Check.due("wetness(3)", park.wetness(3), 4);
    Check.due("wetness(2)", park.wetness(2), 1);
    for (int rank : new int[] {-1, 4, Integer.MIN_VALUE, Integer.MAX_VALUE}) {
      Check.dueThrow("slideByWetness", Check.NO_ELEMENT, () -> park.slideByWetness(rank));
    }
  }

  private static void dueOrder(SlidePark park, int... order) {
    for (int rank = 0; rank < order.length; rank++) {
      Check.due("slideByWetness(" + rank + ")", park.slideByWetness(rank), order[rank]);
    }
  }

  private static void busyShare() {
    SlidePark park = new SlidePark();
    Check.dueThrow("busyShare", Check.ARITHMETIC, park::busyShare);
    for (int i = 0; i < 3; i++) {
      park.buildSlide(2, 1);
      park.addGuest();
    }
    Check.due("no slide is busy", park.busyShare(), 0f);
    park.book(0, 1, 0);
    Check.due("one of three", park.busyShare(), 1f / 3f);
    park.book(1, 2, 0);
    park.book(2, 0, 1);
    Check.due("two of three", park.busyShare(), 2f / 3f);
    park.passMinutes(1);
    Check.due("three of three", park.busyShare(), 1f);
    park.passMinutes(1);
    Check.due("again one of three", park.busyShare(), 1f / 3f);
    park.passMinutes(1);
    Check.due("again none", park.busyShare(), 0f);
  }
}
