/** Boundaries of the wetness of slides and of splashes: promises 13 and 39 to 41. */
final class WetnessBounds {
  private WetnessBounds() {
  }

  /** Slide 0 has the wetness 0 to 9, by rides of guest 0; guest 1 has 50 coins. */
  private static SlidePark wet(int wetness, int price) {
    SlidePark park = Scene.office(2, 1, price, 2, price);
    for (int ride = 0; ride < (wetness + 1) / 2; ride++) {
      park.book(0, 0, park.minute());
      park.passMinutes(1);
    }
    if (wetness % 2 == 1 && wetness < 9) {
      park.passMinutes(1);
    }
    Check.due("wetness of the scene", park.wetness(0), wetness);
    return park;
  }

  @Says({"Slides: and a wetness from 0 to 9",
      "Minutes: its wetness decreases by 1, but not below 0."})
  static void drierDownToZero() {
    for (int wetness = 0; wetness <= 9; wetness++) {
      SlidePark park = wet(wetness, 1);
      for (int want = wetness - 1; want >= -2; want--) {
        park.passMinutes(1);
        Check.due("wetness", park.wetness(0), Math.max(0, want));
      }
    }
  }

  @Says({"Slides: and a wetness from 0 to 9",
      "Minutes: then the wetness of the slide increases by 2, but not above 9"})
  static void wetterUpToNine() {
    for (int wetness = 0; wetness <= 9; wetness++) {
      SlidePark park = wet(wetness, 1);
      park.book(1, 0, park.minute());
      park.passMinutes(1);
      Check.due("wetness after a ride at " + wetness, park.wetness(0), Math.min(9, wetness + 2));
    }
  }

  @Says({"Minutes: if the wetness of the slide is 5 or more, there is a splash",
      "Promise 39: Returns the number of splashes so far."})
  static void splashFromWetnessFiveOn() {
    for (int wetness = 0; wetness <= 9; wetness++) {
      SlidePark park = wet(wetness, 2);
      int splashes = park.splashes();
      Check.due("splashes on the way to " + wetness, splashes,
          wetness < 7 ? 0 : wetness < 9 ? 1 : 2);
      park.book(1, 0, park.minute());
      Check.due("no splash before the finish", park.splashes(), splashes);
      park.passMinutes(1);
      Check.due("splashes after a ride at " + wetness, park.splashes(),
          wetness >= 5 ? splashes + 1 : splashes);
      Check.due("coins(1)", park.coins(1), wetness >= 5 ? 49 : 48);
    }
  }

  @Says({"Minutes: and the office pays half of the price, rounded down, back to the guest",
      "Promise 40: Returns how many coins the office has paid back so far, for splashes and for "
          + "cancelled bookings.",
      "Promise 41: Returns the coins in the office."})
  static void halfOfThePriceRoundedDown() {
    int[] halves = {0, 0, 1, 1, 2, 2, 3, 3, 4, 4};
    for (int price = 1; price <= 9; price++) {
      SlidePark park = wet(5, price);
      int office = park.officeCoins();
      Check.due("officeCoins after three rides", office, 3 * price);
      Check.due("refundedCoins before", park.refundedCoins(), 0);
      park.book(1, 0, park.minute());
      park.passMinutes(1);
      Check.due("splashes", park.splashes(), 1);
      Check.due("refundedCoins at price " + price, park.refundedCoins(), halves[price]);
      Check.due("coins(1) at price " + price, park.coins(1), 50 - price + halves[price]);
      Check.due("officeCoins at price " + price, park.officeCoins(),
          office + price - halves[price]);
      park.book(1, 1, 100);
      park.cancel(0);
      Check.due("refundedCoins with a cancelled booking", park.refundedCoins(),
          halves[price] + price);
      Check.due("splashes with a cancelled booking", park.splashes(), 1);
      Check.due("isConsistent", park.isConsistent(), true);
    }
  }

  @Says("Minutes: Third, each slide on which no booking took place in the minute that has passed "
      + "becomes drier")
  static void drierOnlyInMinutesWithoutABooking() {
    SlidePark park = Scene.office(3, 3, 1, 1, 1);
    park.book(0, 0, 0);
    park.book(1, 0, 5);
    // Rides in the minutes 0 to 2 and 5 to 7, and of the queue from 9 to 11.
    int[] due = {0, 0, 0, 2, 1, 0, 0, 0, 2, 1, 1, 1, 3, 2, 1, 0, 0};
    for (int minute = 0; minute < due.length; minute++) {
      Check.due("wetness in minute " + minute, park.wetness(0), due[minute]);
      Check.due("wetness of a slide without rides", park.wetness(1), 0);
      if (minute == 9) {
        park.joinQueue(2, 0);
      }
      park.passMinutes(1);
    }
  }

  @Says("Minutes: Third, each slide on which no booking took place in the minute that has passed "
      + "becomes drier")
  static void aRideOfAnotherSlideKeepsNoSlideWet() {
    SlidePark park = wet(4, 1);
    park.book(1, 1, park.minute());
    int[] due = {4, 3, 2};
    int[] other = {0, 0, 2};
    for (int i = 0; i < due.length; i++) {
      Check.due("wetness(0)", park.wetness(0), due[i]);
      Check.due("wetness(1)", park.wetness(1), other[i]);
      park.passMinutes(1);
    }
  }
}
