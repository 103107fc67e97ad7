import java.util.NoSuchElementException;

/** A booking office for water slides. */
public final class SlidePark {
  private static final int MOST_SLIDES = 4;
  private static final int LONGEST_DURATION = 9;
  private static final int HIGHEST_PRICE = 9;
  private static final int WETTEST = 9;
  private static final int SPLASH_WETNESS = 5;
  private static final int WETNESS_OF_A_RIDE = 2;
  private static final int MOST_GUESTS = 10;
  private static final int FIRST_COINS = 50;
  private static final int MOST_BOOKINGS = 12;
  private static final int MINUTES_AHEAD = 120;
  private static final int MOST_WAITING = 5;
  private static final int MOST_MINUTES = 60;
  private static final int MOST_FINISHES = 16;
  private static final int MOST_SIGNS = 60;
  private static final int MOST_NUMBERS = 3;
  private static final int MOST_UNDO = 8;

  /** Stands for a slide, booking, minute or text position that there is not. */
  private static final int NONE = -1;

  /** Later than every minute that an office comes to. */
  private static final int NEVER = 2147483647;

  // An office that refuses a change answers one of these in place of a result, which is never
  // negative: so commands can be tried without catching an exception.
  private static final int NO_SUCH_INDEX = -1;
  private static final int OUT_OF_RANGE = -2;
  private static final int WRONG_STATE = -3;
  private static final int IN_THE_WAY = -4;
  private static final int NOT_WAITING = -5;

  private static final Command[] COMMANDS = Command.values();

  private final Office office = new Office();
  private final Office saved = new Office();
  private boolean isSaved = false;
  private final History history = new History();
  private final ChainTable chains = new ChainTable();
  private final CommandText text = new CommandText();
  private final StringBuilder output = new StringBuilder();
  private int latestError = NONE;
  private int latestFailure = NONE;

  public SlidePark() {
  }

  public int buildSlide(int duration, int price)
      throws IllegalArgumentException, IllegalStateException {
    history.prepare(office);
    return recorded(office.tryBuild(duration, price));
  }

  public int addGuest() throws IllegalStateException {
    history.prepare(office);
    return recorded(office.tryGuest());
  }

  public int book(int guest, int slide, int start)
      throws IndexOutOfBoundsException, IllegalArgumentException, IllegalStateException,
          UnsupportedOperationException {
    history.prepare(office);
    return recorded(office.tryBook(guest, slide, start));
  }

  public int cancel(int booking) throws IndexOutOfBoundsException, IllegalStateException {
    history.prepare(office);
    return recorded(office.tryCancel(booking));
  }

  public int joinQueue(int guest, int slide)
      throws IndexOutOfBoundsException, IllegalStateException, UnsupportedOperationException {
    history.prepare(office);
    return recorded(office.tryQueue(guest, slide));
  }

  public int leaveQueue(int guest) throws IndexOutOfBoundsException, NoSuchElementException {
    history.prepare(office);
    return recorded(office.tryLeave(guest));
  }

  public int passMinutes(int minutes) throws IllegalArgumentException {
    history.prepare(office);
    return recorded(office.tryWait(minutes));
  }

  public int minute() {
    return office.now;
  }

  public int slideCount() {
    return office.slides.count;
  }

  public int duration(int slide) throws IndexOutOfBoundsException {
    checkSlide(slide);
    return office.slides.durations[slide];
  }

  public int price(int slide) throws IndexOutOfBoundsException {
    checkSlide(slide);
    return office.slides.prices[slide];
  }

  public int wetness(int slide) throws IndexOutOfBoundsException {
    checkSlide(slide);
    return office.slides.wetnesses[slide];
  }

  public int rider(int slide) throws IndexOutOfBoundsException, NoSuchElementException {
    checkSlide(slide);
    int booking = office.bookings.onSlideAt(slide, office.now);
    if (booking == NONE) {
      throw new NoSuchElementException("no booking of this slide takes place now");
    }
    return office.bookings.guests[booking];
  }

  public int guestCount() {
    return office.guests.count;
  }

  public int coins(int guest) throws IndexOutOfBoundsException {
    checkGuest(guest);
    return office.guests.purses[guest];
  }

  public int queueOf(int guest) throws IndexOutOfBoundsException, NoSuchElementException {
    checkGuest(guest);
    int slide = office.queues.slideOf(guest);
    if (slide == NONE) {
      throw new NoSuchElementException("the guest does not wait in a queue");
    }
    return slide;
  }

  public int queueLength(int slide) throws IndexOutOfBoundsException {
    checkSlide(slide);
    return office.queues.lengths[slide];
  }

  public int queuedGuest(int slide, int position)
      throws IndexOutOfBoundsException, NoSuchElementException {
    checkSlide(slide);
    if (position < 0 || position >= office.queues.lengths[slide]) {
      throw new NoSuchElementException("there is no such position");
    }
    return office.queues.guestAt(slide, position);
  }

  public int bookingCount() {
    return office.bookings.count;
  }

  public int bookedGuest(int booking) throws IndexOutOfBoundsException {
    checkBooking(booking);
    return office.bookings.guests[booking];
  }

  public int bookedSlide(int booking) throws IndexOutOfBoundsException {
    checkBooking(booking);
    return office.bookings.slides[booking];
  }

  public int start(int booking) throws IndexOutOfBoundsException {
    checkBooking(booking);
    return office.bookings.starts[booking];
  }

  public boolean hasStarted(int booking) throws IndexOutOfBoundsException {
    checkBooking(booking);
    return office.bookings.starts[booking] <= office.now;
  }

  public int bookingByStart(int rank) throws NoSuchElementException {
    for (int booking = 0; booking < office.bookings.count; booking++) {
      if (office.bookings.rankByStart(booking) == rank) {
        return booking;
      }
    }
    throw new NoSuchElementException("there is no such rank");
  }

  public boolean isFree(int slide, int start)
      throws IndexOutOfBoundsException, IllegalArgumentException {
    checkSlide(slide);
    checkBookableMinute(start);
    return office.isSlideFree(slide, start);
  }

  public int firstFree(int slide, int from)
      throws IndexOutOfBoundsException, IllegalArgumentException, NoSuchElementException {
    checkSlide(slide);
    checkBookableMinute(from);
    return found(office.freeMinuteByTrying(slide, from));
  }

  public int firstFreeByGaps(int slide, int from)
      throws IndexOutOfBoundsException, IllegalArgumentException, NoSuchElementException {
    checkSlide(slide);
    checkBookableMinute(from);
    return found(office.freeMinuteByGaps(slide, from));
  }

  public int mostWatched() {
    return office.bookings.watchedByEarliestEnd();
  }

  public int mostWatchedByTable() {
    return chains.longestChain(office.bookings);
  }

  public int mostAtOnce() {
    return office.bookings.atOnceByStarts();
  }

  public int mostAtOnceBySweep() {
    return office.bookings.atOnceBySweeping();
  }

  public int finishCount() {
    return office.finishes.count;
  }

  public int finishedGuest(int back) throws NoSuchElementException {
    checkFinish(back);
    return office.finishes.guests[office.finishes.rowOf(back)];
  }

  public int finishedSlide(int back) throws NoSuchElementException {
    checkFinish(back);
    return office.finishes.slides[office.finishes.rowOf(back)];
  }

  public int finishMinute(int back) throws NoSuchElementException {
    checkFinish(back);
    return office.finishes.minutes[office.finishes.rowOf(back)];
  }

  public int photoFinishes() {
    return office.finishes.equalPairs();
  }

  public int photoFinishesByRuns() {
    return office.finishes.equalPairsFromRuns();
  }

  public int splashes() {
    return office.splashCount;
  }

  public int refundedCoins() {
    return office.paidBack;
  }

  public int officeCoins() {
    return office.till;
  }

  public int rides(int guest) throws IndexOutOfBoundsException {
    checkGuest(guest);
    return office.guests.ridden[guest];
  }

  public int guestByRides(int rank) throws NoSuchElementException {
    for (int guest = 0; guest < office.guests.count; guest++) {
      if (office.guests.rankByRidden(guest) == rank) {
        return guest;
      }
    }
    throw new NoSuchElementException("there is no such rank");
  }

  public int slideByWetness(int rank) throws NoSuchElementException {
    for (int slide = 0; slide < office.slides.count; slide++) {
      if (office.slides.rankByWetness(slide) == rank) {
        return slide;
      }
    }
    throw new NoSuchElementException("there is no such rank");
  }

  public double meanCoins() throws ArithmeticException {
    if (office.guests.count == 0) {
      throw new ArithmeticException("there are no guests");
    }
    return (double) office.guests.allCoins() / (double) office.guests.count;
  }

  public float busyShare() throws ArithmeticException {
    if (office.slides.count == 0) {
      throw new ArithmeticException("there are no slides");
    }
    return (float) office.busySlides() / (float) office.slides.count;
  }

  public boolean isConsistent() {
    int coinsOfAll = office.guests.allCoins() + office.till;
    return coinsOfAll == FIRST_COINS * office.guests.count
        && mostWatched() == mostWatchedByTable()
        && mostAtOnce() == mostAtOnceBySweep()
        && photoFinishes() == photoFinishesByRuns();
  }

  public int feed(char character) throws IllegalStateException {
    if (text.length >= MOST_SIGNS) {
      throw new IllegalStateException("the input buffer is full");
    }
    text.append(character);
    return text.length;
  }

  public int runCommands() throws IllegalArgumentException, UnsupportedOperationException {
    int commands = text.countCommands();
    if (commands == NONE) {
      latestError = text.place;
      text.empty();
      throw new IllegalArgumentException("the text is malformed");
    }
    history.prepare(office);
    text.rewind();
    int carriedOut = 0;
    while (carriedOut < commands && perform(text.readCommand(carriedOut)) >= 0) {
      carriedOut++;
    }
    text.empty();
    if (carriedOut < commands) {
      history.dropChanges(office);
      latestFailure = carriedOut;
      throw new UnsupportedOperationException("a command failed");
    }
    history.keep();
    return commands;
  }

  public int errorPosition() throws NoSuchElementException {
    if (latestError == NONE) {
      throw new NoSuchElementException("no text was malformed");
    }
    return latestError;
  }

  public int failedCommand() throws NoSuchElementException {
    if (latestFailure == NONE) {
      throw new NoSuchElementException("no command failed");
    }
    return latestFailure;
  }

  public int writeSlide(int slide) throws IndexOutOfBoundsException {
    checkSlide(slide);
    output.setLength(0);
    output.append(office.slides.durations[slide]).append('m');
    output.append(office.slides.prices[slide]).append('c');
    output.append(office.slides.wetnesses[slide]).append('w');
    writeBookings(slide);
    return output.length();
  }

  public char outputChar(int index) throws IndexOutOfBoundsException {
    if (index < 0 || index >= output.length()) {
      throw new IndexOutOfBoundsException("the output has no such character");
    }
    return output.charAt(index);
  }

  public int undoCount() {
    return history.count;
  }

  public int undo() throws IllegalStateException {
    if (history.count == 0) {
      throw new IllegalStateException("no call can be undone");
    }
    history.takeBack(office);
    return history.count;
  }

  public int save() {
    saved.copyFrom(office);
    isSaved = true;
    return office.bookings.count;
  }

  public int restore() throws IllegalStateException {
    if (!isSaved) {
      throw new IllegalStateException("no state was saved");
    }
    office.copyFrom(saved);
    history.forget();
    return office.bookings.count;
  }

  /** Records the call whose state before was prepared, or throws what it was refused with. */
  private int recorded(int result) {
    if (result < 0) {
      refuse(result);
    }
    history.keep();
    return result;
  }

  private static void refuse(int problem) {
    switch (problem) {
      case NO_SUCH_INDEX:
        throw new IndexOutOfBoundsException("there is no such guest, slide or booking");
      case OUT_OF_RANGE:
        throw new IllegalArgumentException("a number is out of range");
      case WRONG_STATE:
        throw new IllegalStateException("a limit is reached, or the office does not allow it now");
      case IN_THE_WAY:
        throw new UnsupportedOperationException("a booking or a full queue is in the way");
      default:
        throw new NoSuchElementException("the guest does not wait in a queue");
    }
  }

  private void checkSlide(int slide) {
    if (!office.slides.has(slide)) {
      throw new IndexOutOfBoundsException("there is no such slide");
    }
  }

  private void checkGuest(int guest) {
    if (!office.guests.has(guest)) {
      throw new IndexOutOfBoundsException("there is no such guest");
    }
  }

  private void checkBooking(int booking) {
    if (!office.bookings.has(booking)) {
      throw new IndexOutOfBoundsException("there is no such booking");
    }
  }

  private void checkBookableMinute(int minute) {
    if (!office.isBookable(minute)) {
      throw new IllegalArgumentException("the minute is out of range");
    }
  }

  private void checkFinish(int back) {
    if (back < 0 || back >= office.finishes.count) {
      throw new NoSuchElementException("no such finish is kept");
    }
  }

  private static int found(int minute) {
    if (minute == NONE) {
      throw new NoSuchElementException("there is no such minute");
    }
    return minute;
  }

  /** Tries a command with the numbers that were read behind it. */
  private int perform(Command kind) {
    if (kind == null) {
      return OUT_OF_RANGE;
    }
    int[] numbers = text.numbers;
    switch (kind) {
      case SLIDE:
        return office.tryBuild(numbers[0], numbers[1]);
      case GUEST:
        return office.tryGuest();
      case BOOK:
        return office.tryBook(numbers[0], numbers[1], numbers[2]);
      case CANCEL:
        return office.tryCancel(numbers[0]);
      case QUEUE:
        return office.tryQueue(numbers[0], numbers[1]);
      case LEAVE:
        return office.tryLeave(numbers[0]);
      default:
        return office.tryWait(numbers[0]);
    }
  }

  private void writeBookings(int slide) {
    Bookings bookings = office.bookings;
    int latestStart = NONE;
    for (int written = 0; written < bookings.count; written++) {
      int booking = bookings.nextOnSlide(slide, latestStart);
      if (booking == NONE) {
        return;
      }
      latestStart = bookings.starts[booking];
      output.append(' ').append(bookings.guests[booking]).append('@').append(latestStart);
    }
  }

  private static final class Slides {
    int count = 0;
    final int[] durations = new int[MOST_SLIDES];
    final int[] prices = new int[MOST_SLIDES];
    final int[] wetnesses = new int[MOST_SLIDES];

    void copyFrom(Slides other) {
      count = other.count;
      System.arraycopy(other.durations, 0, durations, 0, MOST_SLIDES);
      System.arraycopy(other.prices, 0, prices, 0, MOST_SLIDES);
      System.arraycopy(other.wetnesses, 0, wetnesses, 0, MOST_SLIDES);
    }

    boolean has(int slide) {
      return slide >= 0 && slide < count;
    }

    /** The caller has seen that there is room. */
    int append(int duration, int price) {
      durations[count] = duration;
      prices[count] = price;
      wetnesses[count] = 0;
      count++;
      return count - 1;
    }

    void dry(int slide) {
      if (wetnesses[slide] > 0) {
        wetnesses[slide]--;
      }
    }

    void wet(int slide) {
      int wetter = wetnesses[slide] + WETNESS_OF_A_RIDE;
      wetnesses[slide] = wetter > WETTEST ? WETTEST : wetter;
    }

    int rankByWetness(int slide) {
      int rank = 0;
      for (int other = 0; other < count; other++) {
        boolean isBefore = other < slide
            ? wetnesses[other] >= wetnesses[slide]
            : wetnesses[other] > wetnesses[slide];
        if (isBefore) {
          rank++;
        }
      }
      return rank;
    }
  }

  private static final class Guests {
    int count = 0;
    final int[] purses = new int[MOST_GUESTS];
    final int[] ridden = new int[MOST_GUESTS];

    void copyFrom(Guests other) {
      count = other.count;
      System.arraycopy(other.purses, 0, purses, 0, MOST_GUESTS);
      System.arraycopy(other.ridden, 0, ridden, 0, MOST_GUESTS);
    }

    boolean has(int guest) {
      return guest >= 0 && guest < count;
    }

    /** The caller has seen that there is room. */
    int append() {
      purses[count] = FIRST_COINS;
      ridden[count] = 0;
      count++;
      return count - 1;
    }

    int allCoins() {
      int sum = 0;
      for (int guest = 0; guest < count; guest++) {
        sum += purses[guest];
      }
      return sum;
    }

    int rankByRidden(int guest) {
      int rank = 0;
      for (int other = 0; other < count; other++) {
        if (isBefore(other, guest)) {
          rank++;
        }
      }
      return rank;
    }

    private boolean isBefore(int one, int other) {
      if (ridden[one] != ridden[other]) {
        return ridden[one] > ridden[other];
      }
      if (purses[one] != purses[other]) {
        return purses[one] > purses[other];
      }
      return one < other;
    }
  }

  /** A booking takes place from its start on, up to the minute before its end. */
  private static final class Bookings {
    int count = 0;
    final int[] guests = new int[MOST_BOOKINGS];
    final int[] slides = new int[MOST_BOOKINGS];
    final int[] starts = new int[MOST_BOOKINGS];
    final int[] ends = new int[MOST_BOOKINGS];

    void copyFrom(Bookings other) {
      count = other.count;
      System.arraycopy(other.guests, 0, guests, 0, MOST_BOOKINGS);
      System.arraycopy(other.slides, 0, slides, 0, MOST_BOOKINGS);
      System.arraycopy(other.starts, 0, starts, 0, MOST_BOOKINGS);
      System.arraycopy(other.ends, 0, ends, 0, MOST_BOOKINGS);
    }

    boolean has(int booking) {
      return booking >= 0 && booking < count;
    }

    boolean isFull() {
      return count >= MOST_BOOKINGS;
    }

    /** The caller has seen that there is room. */
    int append(int guest, int slide, int start, int end) {
      guests[count] = guest;
      slides[count] = slide;
      starts[count] = start;
      ends[count] = end;
      count++;
      return count - 1;
    }

    /** The caller has seen that there is such a booking. */
    void remove(int booking) {
      for (int later = booking + 1; later < count; later++) {
        guests[later - 1] = guests[later];
        slides[later - 1] = slides[later];
        starts[later - 1] = starts[later];
        ends[later - 1] = ends[later];
      }
      count--;
    }

    boolean isSlideFree(int slide, int start, int end) {
      for (int booking = 0; booking < count; booking++) {
        if (slides[booking] == slide && meets(booking, start, end)) {
          return false;
        }
      }
      return true;
    }

    boolean areFree(int guest, int slide, int start, int end) {
      for (int booking = 0; booking < count; booking++) {
        boolean isOneOfThem = guests[booking] == guest || slides[booking] == slide;
        if (isOneOfThem && meets(booking, start, end)) {
          return false;
        }
      }
      return true;
    }

    private boolean meets(int booking, int start, int end) {
      return starts[booking] < end && start < ends[booking];
    }

    private boolean takesPlaceAt(int booking, int minute) {
      return starts[booking] <= minute && minute < ends[booking];
    }

    int onSlideAt(int slide, int minute) {
      for (int booking = 0; booking < count; booking++) {
        if (slides[booking] == slide && takesPlaceAt(booking, minute)) {
          return booking;
        }
      }
      return NONE;
    }

    /** The booking of the slide with the earliest start behind a minute, or NONE. */
    int nextOnSlide(int slide, int minute) {
      int next = NONE;
      for (int booking = 0; booking < count; booking++) {
        if (slides[booking] == slide && starts[booking] > minute
            && (next == NONE || starts[booking] < starts[next])) {
          next = booking;
        }
      }
      return next;
    }

    /** No two bookings have the same rank, for bookings of one slide never start together. */
    int rankByStart(int booking) {
      int rank = 0;
      for (int other = 0; other < count; other++) {
        if (starts[other] < starts[booking]
            || (starts[other] == starts[booking] && slides[other] < slides[booking])) {
          rank++;
        }
      }
      return rank;
    }

    int watchedByEarliestEnd() {
      int watched = 0;
      int freeFrom = 0;
      for (int tried = 0; tried < count; tried++) {
        int booking = earliestEndFrom(freeFrom);
        if (booking == NONE) {
          return watched;
        }
        watched++;
        freeFrom = ends[booking];
      }
      return watched;
    }

    private int earliestEndFrom(int minute) {
      int earliest = NONE;
      for (int booking = 0; booking < count; booking++) {
        if (starts[booking] >= minute
            && (earliest == NONE || ends[booking] < ends[earliest])) {
          earliest = booking;
        }
      }
      return earliest;
    }

    int atOnceByStarts() {
      int most = 0;
      for (int booking = 0; booking < count; booking++) {
        int together = 0;
        for (int other = 0; other < count; other++) {
          if (takesPlaceAt(other, starts[booking])) {
            together++;
          }
        }
        most = Math.max(most, together);
      }
      return most;
    }

    int atOnceBySweeping() {
      int most = 0;
      int together = 0;
      int time = NONE;
      // There are at most as many times to stop at as there are starts and ends.
      for (int stop = 0; stop < 2 * count; stop++) {
        time = nextStartOrEnd(time);
        together += startsLessEndsAt(time);
        most = Math.max(most, together);
      }
      return most;
    }

    private int nextStartOrEnd(int time) {
      int next = NEVER;
      for (int booking = 0; booking < count; booking++) {
        if (starts[booking] > time) {
          next = Math.min(next, starts[booking]);
        }
        if (ends[booking] > time) {
          next = Math.min(next, ends[booking]);
        }
      }
      return next;
    }

    private int startsLessEndsAt(int time) {
      int sum = 0;
      for (int booking = 0; booking < count; booking++) {
        if (starts[booking] == time) {
          sum++;
        }
        if (ends[booking] == time) {
          sum--;
        }
      }
      return sum;
    }
  }

  /** The rows that mostWatchedByTable works in, made once. */
  private static final class ChainTable {
    private final int[] order = new int[MOST_BOOKINGS];
    private final int[] longest = new int[MOST_BOOKINGS];

    int longestChain(Bookings bookings) {
      for (int booking = 0; booking < bookings.count; booking++) {
        order[bookings.rankByStart(booking)] = booking;
      }
      int most = 0;
      for (int rank = 0; rank < bookings.count; rank++) {
        longest[rank] = 1 + longestBefore(bookings, rank);
        most = Math.max(most, longest[rank]);
      }
      return most;
    }

    private int longestBefore(Bookings bookings, int rank) {
      int most = 0;
      for (int earlier = 0; earlier < rank; earlier++) {
        if (bookings.ends[order[earlier]] <= bookings.starts[order[rank]]) {
          most = Math.max(most, longest[earlier]);
        }
      }
      return most;
    }
  }

  private static final class Queues {
    final int[] lengths = new int[MOST_SLIDES];
    private final int[] guests = new int[MOST_SLIDES * MOST_WAITING];

    void copyFrom(Queues other) {
      System.arraycopy(other.lengths, 0, lengths, 0, MOST_SLIDES);
      System.arraycopy(other.guests, 0, guests, 0, MOST_SLIDES * MOST_WAITING);
    }

    boolean isFull(int slide) {
      return lengths[slide] >= MOST_WAITING;
    }

    /** The caller has seen that there is such a slide and position. */
    int guestAt(int slide, int position) {
      return guests[slide * MOST_WAITING + position];
    }

    int slideOf(int guest) {
      for (int slide = 0; slide < MOST_SLIDES; slide++) {
        for (int position = 0; position < lengths[slide]; position++) {
          if (guestAt(slide, position) == guest) {
            return slide;
          }
        }
      }
      return NONE;
    }

    /** The caller has seen that there is room. */
    void append(int slide, int guest) {
      guests[slide * MOST_WAITING + lengths[slide]] = guest;
      lengths[slide]++;
    }

    /** The caller has seen that the guest waits for this slide. */
    void remove(int slide, int guest) {
      int first = slide * MOST_WAITING;
      int kept = 0;
      for (int position = 0; position < lengths[slide]; position++) {
        if (guests[first + position] != guest) {
          guests[first + kept] = guests[first + position];
          kept++;
        }
      }
      lengths[slide] = kept;
    }
  }

  /** The latest finishes, the oldest in the first row. */
  private static final class Finishes {
    int count = 0;
    final int[] guests = new int[MOST_FINISHES];
    final int[] slides = new int[MOST_FINISHES];
    final int[] minutes = new int[MOST_FINISHES];

    void copyFrom(Finishes other) {
      count = other.count;
      System.arraycopy(other.guests, 0, guests, 0, MOST_FINISHES);
      System.arraycopy(other.slides, 0, slides, 0, MOST_FINISHES);
      System.arraycopy(other.minutes, 0, minutes, 0, MOST_FINISHES);
    }

    int rowOf(int back) {
      return count - 1 - back;
    }

    void append(int guest, int slide, int minute) {
      if (count >= MOST_FINISHES) {
        for (int row = 1; row < count; row++) {
          guests[row - 1] = guests[row];
          slides[row - 1] = slides[row];
          minutes[row - 1] = minutes[row];
        }
        count--;
      }
      guests[count] = guest;
      slides[count] = slide;
      minutes[count] = minute;
      count++;
    }

    int equalPairs() {
      int pairs = 0;
      for (int one = 0; one < count; one++) {
        for (int other = one + 1; other < count; other++) {
          if (minutes[one] == minutes[other]) {
            pairs++;
          }
        }
      }
      return pairs;
    }

    /** Finishes are kept in the order of time, so those of one minute stand in one run. */
    int equalPairsFromRuns() {
      int pairs = 0;
      int run = 0;
      for (int row = 0; row < count; row++) {
        run++;
        if (row + 1 == count || minutes[row + 1] != minutes[row]) {
          pairs += run * (run - 1) / 2;
          run = 0;
        }
      }
      return pairs;
    }
  }

  /** All that undo and restore bring back. */
  private static final class Office {
    int now = 0;
    int till = 0;
    int paidBack = 0;
    int splashCount = 0;
    final Slides slides = new Slides();
    final Guests guests = new Guests();
    final Bookings bookings = new Bookings();
    final Queues queues = new Queues();
    final Finishes finishes = new Finishes();

    void copyFrom(Office other) {
      now = other.now;
      till = other.till;
      paidBack = other.paidBack;
      splashCount = other.splashCount;
      slides.copyFrom(other.slides);
      guests.copyFrom(other.guests);
      bookings.copyFrom(other.bookings);
      queues.copyFrom(other.queues);
      finishes.copyFrom(other.finishes);
    }

    int tryBuild(int duration, int price) {
      if (duration < 1 || duration > LONGEST_DURATION || price < 1 || price > HIGHEST_PRICE) {
        return OUT_OF_RANGE;
      }
      if (slides.count >= MOST_SLIDES) {
        return WRONG_STATE;
      }
      return slides.append(duration, price);
    }

    int tryGuest() {
      if (guests.count >= MOST_GUESTS) {
        return WRONG_STATE;
      }
      return guests.append();
    }

    int tryBook(int guest, int slide, int start) {
      if (!guests.has(guest) || !slides.has(slide)) {
        return NO_SUCH_INDEX;
      }
      if (!isBookable(start)) {
        return OUT_OF_RANGE;
      }
      if (bookings.isFull() || guests.purses[guest] < slides.prices[slide]) {
        return WRONG_STATE;
      }
      if (!bookings.areFree(guest, slide, start, endFrom(start, slide))) {
        return IN_THE_WAY;
      }
      return sellBooking(guest, slide, start);
    }

    int tryCancel(int booking) {
      if (!bookings.has(booking)) {
        return NO_SUCH_INDEX;
      }
      if (bookings.starts[booking] <= now) {
        return WRONG_STATE;
      }
      int guest = bookings.guests[booking];
      payBack(guest, slides.prices[bookings.slides[booking]]);
      bookings.remove(booking);
      return guests.purses[guest];
    }

    int tryQueue(int guest, int slide) {
      if (!guests.has(guest) || !slides.has(slide)) {
        return NO_SUCH_INDEX;
      }
      if (queues.slideOf(guest) != NONE) {
        return WRONG_STATE;
      }
      if (queues.isFull(slide)) {
        return IN_THE_WAY;
      }
      queues.append(slide, guest);
      return queues.lengths[slide];
    }

    int tryLeave(int guest) {
      if (!guests.has(guest)) {
        return NO_SUCH_INDEX;
      }
      int slide = queues.slideOf(guest);
      if (slide == NONE) {
        return NOT_WAITING;
      }
      queues.remove(slide, guest);
      return slide;
    }

    int tryWait(int minutes) {
      if (minutes < 1 || minutes > MOST_MINUTES) {
        return OUT_OF_RANGE;
      }
      int finished = 0;
      for (int passed = 0; passed < minutes; passed++) {
        finished += passOneMinute();
      }
      return finished;
    }

    boolean isBookable(int minute) {
      return minute >= now && minute <= now + MINUTES_AHEAD;
    }

    boolean isSlideFree(int slide, int start) {
      return bookings.isSlideFree(slide, start, endFrom(start, slide));
    }

    private int endFrom(int start, int slide) {
      return start + slides.durations[slide];
    }

    private int sellBooking(int guest, int slide, int start) {
      guests.purses[guest] -= slides.prices[slide];
      till += slides.prices[slide];
      return bookings.append(guest, slide, start, endFrom(start, slide));
    }

    private void payBack(int guest, int coins) {
      guests.purses[guest] += coins;
      till -= coins;
      paidBack += coins;
    }

    private int passOneMinute() {
      for (int slide = 0; slide < slides.count; slide++) {
        serveQueue(slide);
      }
      int passed = now;
      now++;
      for (int slide = 0; slide < slides.count; slide++) {
        if (bookings.onSlideAt(slide, passed) == NONE) {
          slides.dry(slide);
        }
      }
      return finishBookings();
    }

    private void serveQueue(int slide) {
      if (queues.lengths[slide] == 0) {
        return;
      }
      int guest = queues.guestAt(slide, 0);
      if (guests.purses[guest] < slides.prices[slide]) {
        queues.remove(slide, guest);
      } else if (!bookings.isFull()
          && bookings.areFree(guest, slide, now, endFrom(now, slide))) {
        queues.remove(slide, guest);
        sellBooking(guest, slide, now);
      }
    }

    private int finishBookings() {
      int before = bookings.count;
      int finished = 0;
      for (int seen = 0; seen < before; seen++) {
        // Each booking that has finished lets the later ones move down by one.
        int booking = seen - finished;
        if (bookings.ends[booking] <= now) {
          finishBooking(booking);
          finished++;
        }
      }
      return finished;
    }

    private void finishBooking(int booking) {
      int guest = bookings.guests[booking];
      int slide = bookings.slides[booking];
      if (slides.wetnesses[slide] >= SPLASH_WETNESS) {
        splashCount++;
        payBack(guest, slides.prices[slide] / 2);
      }
      slides.wet(slide);
      guests.ridden[guest]++;
      finishes.append(guest, slide, now);
      bookings.remove(booking);
    }

    int freeMinuteByTrying(int slide, int from) {
      for (int minute = from; minute <= now + MINUTES_AHEAD; minute++) {
        if (isSlideFree(slide, minute)) {
          return minute;
        }
      }
      return NONE;
    }

    int freeMinuteByGaps(int slide, int from) {
      int minute = from;
      int latestStart = NONE;
      for (int seen = 0; seen < bookings.count; seen++) {
        int booking = bookings.nextOnSlide(slide, latestStart);
        if (booking == NONE || bookings.starts[booking] >= endFrom(minute, slide)) {
          break;
        }
        latestStart = bookings.starts[booking];
        minute = Math.max(minute, bookings.ends[booking]);
      }
      return minute <= now + MINUTES_AHEAD ? minute : NONE;
    }

    int busySlides() {
      int busy = 0;
      for (int slide = 0; slide < slides.count; slide++) {
        if (bookings.onSlideAt(slide, now) != NONE) {
          busy++;
        }
      }
      return busy;
    }
  }

  /**
   * The states before the recorded calls, in a ring. One row more than can be undone takes the
   * state before a call that may still throw, so that such a call pushes no older row out.
   */
  private static final class History {
    private final Office[] rows = new Office[MOST_UNDO + 1];
    private int next = 0;
    int count = 0;

    History() {
      for (int row = 0; row <= MOST_UNDO; row++) {
        rows[row] = new Office();
      }
    }

    void prepare(Office office) {
      rows[next].copyFrom(office);
    }

    void dropChanges(Office office) {
      office.copyFrom(rows[next]);
    }

    void keep() {
      next = next == MOST_UNDO ? 0 : next + 1;
      count = Math.min(MOST_UNDO, count + 1);
    }

    /** The caller has seen that there is a call to undo. */
    void takeBack(Office office) {
      next = next == 0 ? MOST_UNDO : next - 1;
      count--;
      office.copyFrom(rows[next]);
    }

    void forget() {
      count = 0;
    }
  }

  /** All numbers behind a keyword are single digits but for the last, which may be longer. */
  private enum Command {
    SLIDE("slide", 2, 1),
    GUEST("guest", 0, 0),
    BOOK("book", 3, 4),
    CANCEL("cancel", 1, 2),
    QUEUE("queue", 2, 1),
    LEAVE("leave", 1, 1),
    WAIT("wait", 1, 2);

    final String keyword;
    final int numberCount;
    final int lastDigits;

    Command(String keyword, int numberCount, int lastDigits) {
      this.keyword = keyword;
      this.numberCount = numberCount;
      this.lastDigits = lastDigits;
    }
  }

  /** The input buffer, and a reader that stops at the first character that cannot be read on. */
  private static final class CommandText {
    private final char[] signs = new char[MOST_SIGNS];
    int length = 0;
    int place = 0;
    final int[] numbers = new int[MOST_NUMBERS];

    /** The caller has seen that there is room. */
    void append(char sign) {
      signs[length] = sign;
      length++;
    }

    void empty() {
      length = 0;
    }

    void rewind() {
      place = 0;
    }

    /** Answers NONE if the text is malformed; place is then its error position. */
    int countCommands() {
      rewind();
      for (int command = 0; command <= MOST_SIGNS; command++) {
        if (command > 0 && place == length) {
          return command;
        }
        if (readCommand(command) == null) {
          return NONE;
        }
      }
      return NONE;
    }

    /** Reads a command and its numbers, or answers null where the text is malformed. */
    Command readCommand(int command) {
      if (command > 0 && !takeSign(';')) {
        return null;
      }
      Command kind = takeKeyword();
      if (kind == null) {
        return null;
      }
      if (kind == Command.WAIT && !isNext(' ')) {
        numbers[0] = 1;
        return kind;
      }
      return takeNumbers(kind) ? kind : null;
    }

    private boolean isNext(char sign) {
      return place < length && signs[place] == sign;
    }

    private boolean takeSign(char sign) {
      if (!isNext(sign)) {
        return false;
      }
      place++;
      return true;
    }

    private Command takeKeyword() {
      Command nearest = null;
      int most = 0;
      for (Command kind : COMMANDS) {
        int letters = lettersInCommon(kind.keyword);
        if (letters > most) {
          most = letters;
          nearest = kind;
        }
      }
      place += most;
      if (nearest == null || most < nearest.keyword.length()) {
        return null;
      }
      return nearest;
    }

    private int lettersInCommon(String keyword) {
      int letters = 0;
      while (letters < keyword.length() && place + letters < length
          && signs[place + letters] == keyword.charAt(letters)) {
        letters++;
      }
      return letters;
    }

    private boolean takeNumbers(Command kind) {
      for (int number = 0; number < kind.numberCount; number++) {
        int mostDigits = number == kind.numberCount - 1 ? kind.lastDigits : 1;
        if (!takeSign(' ') || !takeNumber(number, mostDigits)) {
          return false;
        }
      }
      return true;
    }

    private boolean takeNumber(int number, int mostDigits) {
      int value = 0;
      int digits = 0;
      while (digits < mostDigits && isDigitNext()) {
        value = 10 * value + (signs[place] - '0');
        place++;
        digits++;
      }
      numbers[number] = value;
      return digits > 0;
    }

    private boolean isDigitNext() {
      return place < length && signs[place] >= '0' && signs[place] <= '9';
    }
  }
}
