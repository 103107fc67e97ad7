/** Promises 6, 7 and 17 to 19: joining and leaving queues, and what is asked of them. */
public final class QueueTest {
  public static void main(String[] args) {
    join();
    limitOfQueue();
    leave();
    facts();
    Check.close("QueueTest");
  }

  private static SlidePark park() {
    SlidePark park = new SlidePark();
    park.buildSlide(2, 3);
    park.buildSlide(4, 5);
    for (int i = 0; i < 8; i++) {
      park.addGuest();
    }
    return park;
  }

  private static void dueWrongJoin(SlidePark park, Class<?> want, int guest, int slide) {
    Check.dueThrowUnchanged(park, "joinQueue(" + guest + ", " + slide + ")", want,
        () -> park.joinQueue(guest, slide));
  }

  private static void join() {
    SlidePark park = park();
    for (int index : new int[] {-1, 8, Integer.MIN_VALUE, Integer.MAX_VALUE}) {
      dueWrongJoin(park, Check.INDEX, index, 0);
      dueWrongJoin(park, Check.INDEX, 0, index);
    }
    dueWrongJoin(park, Check.INDEX, 0, 2);
    Check.due("first", park.joinQueue(3, 1), 1);
    Check.due("second", park.joinQueue(0, 1), 2);
    Check.due("other queue", park.joinQueue(7, 0), 1);
    dueWrongJoin(park, Check.STATE, 3, 1);
    dueWrongJoin(park, Check.STATE, 3, 0);
    Check.due("queueLength(0)", park.queueLength(0), 1);
    Check.due("queueLength(1)", park.queueLength(1), 2);
  }

  private static void limitOfQueue() {
    SlidePark park = park();
    for (int i = 0; i < 5; i++) {
      Check.due("queueLength", park.queueLength(0), i);
      Check.due("joinQueue", park.joinQueue(i, 0), i + 1);
    }
    dueWrongJoin(park, Check.UNSUPPORTED, 5, 0);
    dueWrongJoin(park, Check.STATE, 2, 0);
    dueWrongJoin(park, Check.INDEX, 8, 0);
    Check.due("the other queue has room", park.joinQueue(5, 1), 1);
    park.leaveQueue(1);
    Check.due("room again", park.joinQueue(6, 0), 5);
    int[] order = {0, 2, 3, 4, 6};
    for (int position = 0; position < 5; position++) {
      Check.due("queuedGuest", park.queuedGuest(0, position), order[position]);
    }
  }

  private static void leave() {
    SlidePark park = park();
    park.joinQueue(4, 1);
    park.joinQueue(2, 1);
    park.joinQueue(6, 1);
    for (int guest : new int[] {-1, 8, Integer.MIN_VALUE, Integer.MAX_VALUE}) {
      Check.dueThrowUnchanged(park, "leaveQueue", Check.INDEX, () -> park.leaveQueue(guest));
    }
    Check.dueThrowUnchanged(park, "leaveQueue(0)", Check.NO_ELEMENT, () -> park.leaveQueue(0));
    Check.due("leaveQueue(2)", park.leaveQueue(2), 1);
    Check.dueThrowUnchanged(park, "leaveQueue(2)", Check.NO_ELEMENT, () -> park.leaveQueue(2));
    Check.due("queuedGuest(1, 0)", park.queuedGuest(1, 0), 4);
    Check.due("queuedGuest(1, 1)", park.queuedGuest(1, 1), 6);
    Check.due("queueLength(1)", park.queueLength(1), 2);
    Check.due("joins again at the end", park.joinQueue(2, 1), 3);
    Check.due("queuedGuest(1, 2)", park.queuedGuest(1, 2), 2);
    Check.due("leaveQueue(4)", park.leaveQueue(4), 1);
    Check.due("queuedGuest(1, 0)", park.queuedGuest(1, 0), 6);
    park.joinQueue(4, 0);
    Check.due("leaveQueue(4) of slide 0", park.leaveQueue(4), 0);
  }

  private static void facts() {
    SlidePark park = park();
    park.joinQueue(4, 1);
    park.joinQueue(2, 0);
    Check.due("queueOf(4)", park.queueOf(4), 1);
    Check.due("queueOf(2)", park.queueOf(2), 0);
    Check.dueThrow("queueOf(0)", Check.NO_ELEMENT, () -> park.queueOf(0));
    Check.dueThrow("queueOf(-1)", Check.INDEX, () -> park.queueOf(-1));
    Check.dueThrow("queueOf(8)", Check.INDEX, () -> park.queueOf(8));
    for (int slide : new int[] {-1, 2, Integer.MIN_VALUE, Integer.MAX_VALUE}) {
      Check.dueThrow("queueLength", Check.INDEX, () -> park.queueLength(slide));
      Check.dueThrow("queuedGuest", Check.INDEX, () -> park.queuedGuest(slide, 0));
      Check.dueThrow("queuedGuest", Check.INDEX, () -> park.queuedGuest(slide, -1));
    }
    for (int position : new int[] {-1, 1, 5, Integer.MIN_VALUE, Integer.MAX_VALUE}) {
      Check.dueThrow("queuedGuest(0, " + position + ")", Check.NO_ELEMENT,
          () -> park.queuedGuest(0, position));
    }
    Check.due("queuedGuest(0, 0)", park.queuedGuest(0, 0), 2);
  }
}
