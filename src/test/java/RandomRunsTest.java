import java.util.List;
import java.util.NoSuchElementException;
import java.util.Random;

/**
 * Runs of 512 calls, drawn from fixed seeds, on the class and on a model of the document. Every
 * answer is compared, and after each change all that can be asked.
 */
public final class RandomRunsTest {
  private static final int RUNS = 300;

  private final Random random;
  private final String name;
  private final boolean tame;
  private SlidePark park = new SlidePark();
  private final Model model = new Model();
  private String text = "";

  private RandomRunsTest(int seed) {
    random = new Random(seed);
    name = "run " + seed;
    tame = seed % 3 != 0;
  }

  public static void main(String[] args) {
    for (int seed = 1; seed <= RUNS; seed++) {
      new RandomRunsTest(seed).run();
    }
    Check.close("RandomRunsTest");
  }

  private void run() {
    if (tame) {
      int slides = 1 + random.nextInt(4);
      for (int i = 0; i < slides; i++) {
        int duration = 1 + random.nextInt(9);
        int price = 1 + random.nextInt(5);
        compare("buildSlide", () -> park.buildSlide(duration, price),
            () -> model.buildSlide(duration, price));
      }
      int guests = 2 + random.nextInt(9);
      for (int i = 0; i < guests; i++) {
        compare("addGuest", () -> park.addGuest(), model::addGuest);
      }
    }
    for (int call = 0; call < 490; call++) {
      oneCall();
      if (call % 4 == 0) {
        compareAll();
      }
    }
    compareAll();
  }

  private void compare(String what, Check.Call got, Check.Call want) {
    Check.due(name + " " + what + " in minute " + model.state.minute, Check.outcome(got),
        Check.outcome(want));
  }

  private int index(int size) {
    return tame && random.nextInt(8) > 0 && size > 0
        ? random.nextInt(size) : random.nextInt(size + 3) - 1;
  }

  private int startNear() {
    int now = model.state.minute;
    return switch (random.nextInt(10)) {
      case 0 -> now - 1 + random.nextInt(3);
      case 1 -> now + 119 + random.nextInt(3);
      case 2 -> now + random.nextInt(121);
      default -> now + random.nextInt(18);
    };
  }

  private void oneCall() {
    int guest = index(model.state.guests.size());
    int slide = index(model.state.slides.size());
    int start = startNear();
    switch (random.nextInt(24)) {
      case 0 -> {
        int duration = random.nextInt(11);
        int price = random.nextInt(11);
        compare("buildSlide(" + duration + ", " + price + ")",
            () -> park.buildSlide(duration, price), () -> model.buildSlide(duration, price));
      }
      case 1 -> compare("addGuest()", () -> park.addGuest(), model::addGuest);
      case 2, 3, 4, 5, 6, 7 -> compare("book(" + guest + ", " + slide + ", " + start + ")",
          () -> park.book(guest, slide, start), () -> model.book(guest, slide, start));
      case 8 -> {
        int booking = index(model.state.bookings.size());
        compare("cancel(" + booking + ")", () -> park.cancel(booking),
            () -> model.cancel(booking));
      }
      case 9, 10, 11 -> compare("joinQueue(" + guest + ", " + slide + ")",
          () -> park.joinQueue(guest, slide), () -> model.joinQueue(guest, slide));
      case 12 -> compare("leaveQueue(" + guest + ")", () -> park.leaveQueue(guest),
          () -> model.leaveQueue(guest));
      case 13, 14, 15 -> {
        int minutes = random.nextInt(6) == 0 ? random.nextInt(64) - 1 : 1 + random.nextInt(5);
        compare("passMinutes(" + minutes + ")", () -> park.passMinutes(minutes),
            () -> model.passMinutes(minutes));
      }
      case 16 -> compare("undo()", () -> park.undo(), model::undo);
      case 17 -> {
        if (random.nextInt(3) == 0) {
          compare("save()", () -> park.save(), model::save);
        }
      }
      case 18 -> {
        if (random.nextInt(6) == 0) {
          compare("restore()", () -> park.restore(), model::restore);
        }
      }
      case 19 -> compare("writeSlide(" + slide + ")", () -> park.writeSlide(slide),
          () -> model.writeSlide(slide));
      case 20 -> feedAndRun();
      default -> compareFree(slide, start);
    }
  }

  private void compareFree(int slide, int start) {
    String where = "(" + slide + ", " + start + ")";
    compare("isFree" + where, () -> park.isFree(slide, start), () -> model.isFree(slide, start));
    compare("firstFree" + where, () -> park.firstFree(slide, start),
        () -> model.firstFree(slide, start));
    compare("firstFreeByGaps" + where, () -> park.firstFreeByGaps(slide, start),
        () -> model.firstFree(slide, start));
  }

  private void feedAndRun() {
    text = randomText();
    for (int i = 0; i < text.length(); i++) {
      char character = text.charAt(i);
      compare("feed", () -> park.feed(character), () -> model.feed(character));
    }
    compare("runCommands of " + text, () -> park.runCommands(), model::runCommands);
  }

  private String randomText() {
    StringBuilder made = new StringBuilder();
    int commands = 1 + random.nextInt(5);
    for (int i = 0; i < commands; i++) {
      if (i > 0) {
        made.append(';');
      }
      made.append(randomCommand());
    }
    if (random.nextInt(4) == 0) {
      int place = random.nextInt(made.length());
      String signs = "0123456789 ;slidegustbookcanqwv\u0000";
      char sign = signs.charAt(random.nextInt(signs.length()));
      switch (random.nextInt(4)) {
        case 0 -> made.deleteCharAt(place);
        case 1 -> made.insert(place, sign);
        case 2 -> made.setCharAt(place, sign);
        default -> made.setLength(place);
      }
    }
    return made.toString();
  }

  private String randomCommand() {
    int guest = random.nextInt(random.nextInt(4) == 0 ? 10 : 4);
    int slide = random.nextInt(random.nextInt(4) == 0 ? 10 : 2);
    return switch (random.nextInt(7)) {
      case 0 -> "slide " + random.nextInt(10) + " " + random.nextInt(10);
      case 1 -> "guest";
      case 2 -> "book " + guest + " " + slide + " " + Math.max(0, startNear());
      case 3 -> "cancel " + (random.nextInt(4) == 0 ? "0" : "") + random.nextInt(10);
      case 4 -> "queue " + guest + " " + slide;
      case 5 -> "leave " + guest;
      default -> "wait" + (random.nextBoolean() ? "" : " " + random.nextInt(12));
    };
  }

  private void compareAll() {
    Model.State state = model.state;
    compare("minute()", () -> park.minute(), () -> state.minute);
    compare("slideCount()", () -> park.slideCount(), () -> state.slides.size());
    compare("guestCount()", () -> park.guestCount(), () -> state.guests.size());
    compare("bookingCount()", () -> park.bookingCount(), () -> state.bookings.size());
    compare("finishCount()", () -> park.finishCount(), () -> state.finishes.size());
    compare("undoCount()", () -> park.undoCount(), () -> model.past.size());
    compare("officeCoins()", () -> park.officeCoins(), () -> state.office);
    compare("refundedCoins()", () -> park.refundedCoins(), () -> state.refunded);
    compare("splashes()", () -> park.splashes(), () -> state.splashes);
    compare("mostWatched()", () -> park.mostWatched(), model::mostWatched);
    compare("mostWatchedByTable()", () -> park.mostWatchedByTable(), model::mostWatched);
    compare("mostAtOnce()", () -> park.mostAtOnce(), model::mostAtOnce);
    compare("mostAtOnceBySweep()", () -> park.mostAtOnceBySweep(), model::mostAtOnce);
    compare("photoFinishes()", () -> park.photoFinishes(), model::photoFinishes);
    compare("photoFinishesByRuns()", () -> park.photoFinishesByRuns(), model::photoFinishes);
    compare("isConsistent()", () -> park.isConsistent(), () -> true);
    compareShares(state);
    compareErrors();
    for (int i = -1; i <= 4; i++) {
      compareSlide(state, i);
    }
    for (int i = -1; i <= 10; i++) {
      compareGuest(state, i);
    }
    for (int i = -1; i <= 12; i++) {
      compareBooking(state, i);
    }
    for (int i = -1; i <= 16; i++) {
      compareFinish(state, i);
    }
    for (int i = -1; i <= model.output.length(); i++) {
      int index = i;
      compare("outputChar", () -> park.outputChar(index), () -> {
        Model.needIndex(index, model.output.length());
        return model.output.charAt(index);
      });
    }
  }

  private void compareShares(Model.State state) {
    compare("meanCoins()", () -> park.meanCoins(), () -> {
      double sum = 0;
      for (Model.Guest guest : state.guests) {
        sum += guest.coins;
      }
      if (state.guests.isEmpty()) {
        throw new ArithmeticException();
      }
      return sum / state.guests.size();
    });
    compare("busyShare()", () -> park.busyShare(), () -> {
      if (state.slides.isEmpty()) {
        throw new ArithmeticException();
      }
      float busy = 0;
      for (Model.Booking booking : state.bookings) {
        busy += booking.takesPlaceIn(state.minute) ? 1 : 0;
      }
      return busy / state.slides.size();
    });
  }

  private void compareErrors() {
    compare("errorPosition() behind " + text, () -> park.errorPosition(),
        () -> present(model.errorPosition));
    compare("failedCommand() behind " + text, () -> park.failedCommand(),
        () -> present(model.failedCommand));
  }

  private static Object present(Integer value) {
    if (value == null) {
      throw new NoSuchElementException();
    }
    return value;
  }

  private static <T> T of(List<T> list, int index) {
    Model.needIndex(index, list.size());
    return list.get(index);
  }

  private static <T> T ranked(List<T> list, int rank) {
    if (rank < 0 || rank >= list.size()) {
      throw new NoSuchElementException();
    }
    return list.get(rank);
  }

  private void compareSlide(Model.State state, int i) {
    compare("duration", () -> park.duration(i), () -> of(state.slides, i).duration);
    compare("price", () -> park.price(i), () -> of(state.slides, i).price);
    compare("wetness", () -> park.wetness(i), () -> of(state.slides, i).wetness);
    compare("rider", () -> park.rider(i), () -> model.rider(i));
    compare("queueLength", () -> park.queueLength(i), () -> of(state.slides, i).queue.size());
    for (int p = -1; p <= 5; p++) {
      int position = p;
      compare("queuedGuest", () -> park.queuedGuest(i, position),
          () -> ranked(of(state.slides, i).queue, position));
    }
    compare("slideByWetness", () -> park.slideByWetness(i),
        () -> ranked(model.slidesByWetness(), i));
  }

  private void compareGuest(Model.State state, int i) {
    compare("coins", () -> park.coins(i), () -> of(state.guests, i).coins);
    compare("rides", () -> park.rides(i), () -> of(state.guests, i).rides);
    compare("queueOf", () -> park.queueOf(i), () -> model.queueOf(i));
    compare("guestByRides", () -> park.guestByRides(i), () -> ranked(model.guestsByRides(), i));
  }

  private void compareBooking(Model.State state, int i) {
    compare("bookedGuest", () -> park.bookedGuest(i), () -> of(state.bookings, i).guest());
    compare("bookedSlide", () -> park.bookedSlide(i), () -> of(state.bookings, i).slide());
    compare("start", () -> park.start(i), () -> of(state.bookings, i).start());
    compare("hasStarted", () -> park.hasStarted(i),
        () -> of(state.bookings, i).start() <= state.minute);
    compare("bookingByStart", () -> park.bookingByStart(i),
        () -> ranked(model.bookingsByStart(), i));
  }

  private void compareFinish(Model.State state, int i) {
    compare("finishedGuest", () -> park.finishedGuest(i),
        () -> ranked(state.finishes, i).guest());
    compare("finishedSlide", () -> park.finishedSlide(i),
        () -> ranked(state.finishes, i).slide());
    compare("finishMinute", () -> park.finishMinute(i),
        () -> ranked(state.finishes, i).minute());
  }
}
