/** Boundaries of queues: promises 6, 7 and 17 to 19. */
final class QueueBounds {
  private QueueBounds() {
  }

  /** So many guests wait for slide 1, from guest 1 on; two more wait for slide 0. */
  private static SlidePark waiting(int count) {
    SlidePark park = Scene.office(10, 1, 1, 2, 2);
    park.joinQueue(9, 0);
    park.joinQueue(8, 0);
    for (int i = 0; i < count; i++) {
      park.joinQueue(1 + i, 1);
    }
    return park;
  }

  @Says({"Queues: Each slide has a queue of at most 5 guests.",
      "Promise 18: Returns the number, 0 to 5.",
      "Promise 6: Throws `UnsupportedOperationException` if 5 guests wait in this queue"})
  static void fiveGuestsAndNoSixth() {
    SlidePark park = waiting(0);
    for (int i = 0; i < 5; i++) {
      Check.due("queueLength", park.queueLength(1), i);
      Check.due("joinQueue", park.joinQueue(1 + i, 1), i + 1);
    }
    Check.due("queueLength", park.queueLength(1), 5);
    Scene.refused(Check.UNSUPPORTED, "a sixth guest", () -> waiting(5), p -> p.joinQueue(6, 1));
    Check.due("the other queue has room", park.joinQueue(6, 0), 3);
    park.leaveQueue(3);
    Check.due("a fifth guest again", park.joinQueue(7, 1), 5);
  }

  @Says("Queues: Each slide has a queue of at most 5 guests.")
  static void everySlideHasAQueueOfItsOwn() {
    SlidePark park = Scene.office(10, 1, 1, 1, 1, 1, 1, 1, 1);
    for (int guest = 0; guest < 10; guest++) {
      Check.due("joinQueue", park.joinQueue(guest, guest < 5 ? 0 : 3), guest % 5 + 1);
    }
    int[] lengths = {5, 0, 0, 5};
    for (int slide = 0; slide < 4; slide++) {
      Check.due("queueLength(" + slide + ")", park.queueLength(slide), lengths[slide]);
    }
    for (int guest = 0; guest < 10; guest++) {
      Check.due("queueOf", park.queueOf(guest), guest < 5 ? 0 : 3);
      Check.due("queuedGuest", park.queuedGuest(guest < 5 ? 0 : 3, guest % 5), guest);
    }
  }

  @Says({"Queues: The guest who joined first is the first in the queue.",
      "Promise 19: `position`: the position, 0 for the first guest"})
  static void theFirstToJoinIsAtPositionZero() {
    for (int gone = 0; gone < 5; gone++) {
      SlidePark park = waiting(0);
      for (int guest = 5; guest >= 1; guest--) {
        park.joinQueue(guest, 1);
        Check.due("queuedGuest(1, 0)", park.queuedGuest(1, 0), 5);
        Check.due("the last", park.queuedGuest(1, 5 - guest), guest);
      }
      Check.due("leaveQueue", park.leaveQueue(5 - gone), 1);
      for (int position = 0; position < 4; position++) {
        Check.due("queuedGuest(1, " + position + ") when " + gone + " has left",
            park.queuedGuest(1, position), 5 - (position < gone ? position : position + 1));
      }
      park.joinQueue(5 - gone, 1);
      Check.due("who joins again is the last", park.queuedGuest(1, 4), 5 - gone);
    }
  }

  @Says("Promise 6: Throws `IndexOutOfBoundsException` if there is no such guest or slide")
  static void joinWithNoGuestOrSlide() {
    for (int guests : new int[] {1, 2, 10}) {
      Scene.onlyBelow(guests, Check.INDEX, "joinQueue of guest", () -> Scene.office(guests, 1, 1),
          (p, guest) -> p.joinQueue(guest, 0));
    }
    Scene.onlyBelow(1, Check.INDEX, "joinQueue of slide", () -> Scene.office(1, 1, 1),
        (p, slide) -> p.joinQueue(0, slide));
    Scene.onlyBelow(4, Check.INDEX, "joinQueue of slide",
        () -> Scene.office(1, 1, 1, 1, 1, 1, 1, 1, 1), (p, slide) -> p.joinQueue(0, slide));
    Scene.refused(Check.INDEX, "joinQueue", Scene::fresh, p -> p.joinQueue(0, 0));
  }

  @Says("Promise 7: Throws `IndexOutOfBoundsException` if there is no such guest")
  static void leaveWithNoGuest() {
    Scene.refused(Check.INDEX, "leaveQueue", Scene::fresh, p -> p.leaveQueue(0));
    Scene.onlyBelow(4, Check.INDEX, "leaveQueue", QueueBounds::fourWait, SlidePark::leaveQueue);
  }

  private static SlidePark fourWait() {
    SlidePark park = Scene.office(4, 1, 1, 2, 2);
    for (int guest = 0; guest < 4; guest++) {
      park.joinQueue(guest, guest % 2);
    }
    return park;
  }

  @Says("Promise 7: Throws `NoSuchElementException` if the guest does not wait in a queue")
  static void leaveWithoutWaiting() {
    Scene.refused(Check.NO_ELEMENT, "leaveQueue(0)", () -> waiting(5), p -> p.leaveQueue(0));
    Scene.refused(Check.NO_ELEMENT, "leaveQueue(1), again", () -> {
      SlidePark park = waiting(3);
      Check.due("leaveQueue(1)", park.leaveQueue(1), 1);
      return park;
    }, p -> p.leaveQueue(1));
    Scene.refused(Check.NO_ELEMENT, "leaveQueue(1) after the queue has booked", () -> {
      SlidePark park = waiting(3);
      park.passMinutes(1);
      return park;
    }, p -> p.leaveQueue(1));
    Check.due("leaveQueue(9)", waiting(1).leaveQueue(9), 0);
  }

  @Says("Promise 17: Throws `IndexOutOfBoundsException` if there is no such guest")
  static void queueOfNoGuest() {
    Scene.refused(Check.INDEX, "queueOf", Scene::fresh, p -> p.queueOf(0));
    Scene.onlyBelow(4, Check.INDEX, "queueOf", QueueBounds::fourWait, SlidePark::queueOf);
  }

  @Says("Promise 17: Throws `NoSuchElementException` if the guest does not wait in a queue")
  static void queueOfAGuestWhoDoesNotWait() {
    for (int guest : new int[] {0, 6, 7}) {
      Scene.refused(Check.NO_ELEMENT, "queueOf(" + guest + ")", () -> waiting(5),
          p -> p.queueOf(guest));
    }
    Check.due("queueOf(5)", waiting(5).queueOf(5), 1);
    Check.due("queueOf(8)", waiting(5).queueOf(8), 0);
  }

  @Says("Promise 18: Throws `IndexOutOfBoundsException` if there is no such slide")
  static void lengthOfNoQueue() {
    Scene.refused(Check.INDEX, "queueLength", Scene::fresh, p -> p.queueLength(0));
    Scene.onlyBelow(2, Check.INDEX, "queueLength", () -> waiting(5), SlidePark::queueLength);
    Scene.onlyBelow(4, Check.INDEX, "queueLength",
        () -> Scene.office(1, 1, 1, 1, 1, 1, 1, 1, 1), SlidePark::queueLength);
  }

  @Says("Promise 19: Throws `IndexOutOfBoundsException` if there is no such slide")
  static void positionInNoQueue() {
    Scene.refused(Check.INDEX, "queuedGuest", Scene::fresh, p -> p.queuedGuest(0, 0));
    Scene.onlyBelow(2, Check.INDEX, "queuedGuest", () -> waiting(5),
        (p, slide) -> p.queuedGuest(slide, 0));
  }

  @Says("Promise 19: Throws `NoSuchElementException` if there is no such position")
  static void positionsInAQueue() {
    for (int count = 0; count <= 5; count++) {
      int length = count;
      Scene.onlyBelow(count, Check.NO_ELEMENT, "queuedGuest(1, position)", () -> waiting(length),
          (p, position) -> p.queuedGuest(1, position));
    }
    Scene.onlyBelow(2, Check.NO_ELEMENT, "queuedGuest(0, position)", () -> waiting(5),
        (p, position) -> p.queuedGuest(0, position));
  }
}
