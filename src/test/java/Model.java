import java.util.ArrayList;
import java.util.HashSet;
import java.util.List;
import java.util.NoSuchElementException;
import java.util.Set;
import java.util.regex.Matcher;
import java.util.regex.Pattern;

/**
 * The document once more, written as simply as the Java library allows and in another way than the
 * class: minutes of a booking as sets, texts by regular expressions, states as copies in lists.
 */
final class Model {
  static final class Slide {
    int duration;
    int price;
    int wetness;
    List<Integer> queue = new ArrayList<>();
  }

  static final class Guest {
    int coins = 50;
    int rides;
  }

  record Booking(int guest, int slide, int start, int duration) {
    boolean takesPlaceIn(int minute) {
      return minutes().contains(minute);
    }

    Set<Integer> minutes() {
      Set<Integer> minutes = new HashSet<>();
      for (int i = 0; i < duration; i++) {
        minutes.add(start + i);
      }
      return minutes;
    }

    boolean meets(Booking other) {
      Set<Integer> both = minutes();
      both.retainAll(other.minutes());
      return !both.isEmpty();
    }
  }

  record Finish(int guest, int slide, int minute) {
  }

  static final class State {
    int minute;
    int office;
    int refunded;
    int splashes;
    List<Slide> slides = new ArrayList<>();
    List<Guest> guests = new ArrayList<>();
    List<Booking> bookings = new ArrayList<>();
    List<Finish> finishes = new ArrayList<>();

    State copy() {
      State copy = new State();
      copy.minute = minute;
      copy.office = office;
      copy.refunded = refunded;
      copy.splashes = splashes;
      for (Slide slide : slides) {
        Slide other = new Slide();
        other.duration = slide.duration;
        other.price = slide.price;
        other.wetness = slide.wetness;
        other.queue.addAll(slide.queue);
        copy.slides.add(other);
      }
      for (Guest guest : guests) {
        Guest other = new Guest();
        other.coins = guest.coins;
        other.rides = guest.rides;
        copy.guests.add(other);
      }
      copy.bookings.addAll(bookings);
      copy.finishes.addAll(finishes);
      return copy;
    }
  }

  private static final String COMMAND = "slide \\d \\d|guest|book \\d \\d \\d{1,4}|cancel \\d{1,2}"
      + "|queue \\d \\d|leave \\d|wait(?: \\d{1,2})?";
  private static final Pattern TEXT =
      Pattern.compile("(?:" + COMMAND + ")(?:;(?:" + COMMAND + "))*");

  State state = new State();
  final List<State> past = new ArrayList<>();
  State saved;
  String input = "";
  String output = "";
  Integer errorPosition;
  Integer failedCommand;

  interface Change {
    int carryOut();
  }

  private int recorded(Change change) {
    State before = state.copy();
    int result;
    try {
      result = change.carryOut();
    } catch (RuntimeException e) {
      state = before;
      throw e;
    }
    past.add(before);
    if (past.size() > 8) {
      past.remove(0);
    }
    return result;
  }

  int buildSlide(int duration, int price) {
    return recorded(() -> doBuild(duration, price));
  }

  int addGuest() {
    return recorded(this::doGuest);
  }

  int book(int guest, int slide, int start) {
    return recorded(() -> doBook(guest, slide, start));
  }

  int cancel(int booking) {
    return recorded(() -> doCancel(booking));
  }

  int joinQueue(int guest, int slide) {
    return recorded(() -> doQueue(guest, slide));
  }

  int leaveQueue(int guest) {
    return recorded(() -> doLeave(guest));
  }

  int passMinutes(int minutes) {
    return recorded(() -> doWait(minutes));
  }

  private int doBuild(int duration, int price) {
    need(duration >= 1 && duration <= 9 && price >= 1 && price <= 9,
        new IllegalArgumentException());
    need(state.slides.size() < 4, new IllegalStateException());
    Slide slide = new Slide();
    slide.duration = duration;
    slide.price = price;
    state.slides.add(slide);
    return state.slides.size() - 1;
  }

  private int doGuest() {
    need(state.guests.size() < 10, new IllegalStateException());
    state.guests.add(new Guest());
    return state.guests.size() - 1;
  }

  private int doBook(int guest, int slide, int start) {
    needIndex(guest, state.guests.size());
    needIndex(slide, state.slides.size());
    needStart(start);
    Slide booked = state.slides.get(slide);
    need(state.bookings.size() < 12, new IllegalStateException());
    need(state.guests.get(guest).coins >= booked.price, new IllegalStateException());
    Booking booking = new Booking(guest, slide, start, booked.duration);
    need(fits(booking), new UnsupportedOperationException());
    take(booking);
    return state.bookings.size() - 1;
  }

  private boolean fits(Booking booking) {
    for (Booking other : state.bookings) {
      boolean related = other.guest == booking.guest || other.slide == booking.slide;
      if (related && other.meets(booking)) {
        return false;
      }
    }
    return true;
  }

  private void take(Booking booking) {
    int price = state.slides.get(booking.slide).price;
    state.guests.get(booking.guest).coins -= price;
    state.office += price;
    state.bookings.add(booking);
  }

  private void refund(int guest, int coins) {
    state.guests.get(guest).coins += coins;
    state.office -= coins;
    state.refunded += coins;
  }

  private int doCancel(int index) {
    needIndex(index, state.bookings.size());
    Booking booking = state.bookings.get(index);
    need(booking.start > state.minute, new IllegalStateException());
    state.bookings.remove(index);
    refund(booking.guest, state.slides.get(booking.slide).price);
    return state.guests.get(booking.guest).coins;
  }

  private int doQueue(int guest, int slide) {
    needIndex(guest, state.guests.size());
    needIndex(slide, state.slides.size());
    for (Slide any : state.slides) {
      need(!any.queue.contains(guest), new IllegalStateException());
    }
    List<Integer> queue = state.slides.get(slide).queue;
    need(queue.size() < 5, new UnsupportedOperationException());
    queue.add(guest);
    return queue.size();
  }

  private int doLeave(int guest) {
    int slide = queueOf(guest);
    state.slides.get(slide).queue.remove((Integer) guest);
    return slide;
  }

  private int doWait(int minutes) {
    need(minutes >= 1 && minutes <= 60, new IllegalArgumentException());
    int finished = 0;
    for (int i = 0; i < minutes; i++) {
      finished += oneMinute();
    }
    return finished;
  }

  private int oneMinute() {
    for (int index = 0; index < state.slides.size(); index++) {
      Slide slide = state.slides.get(index);
      if (slide.queue.isEmpty()) {
        continue;
      }
      int first = slide.queue.get(0);
      Booking wish = new Booking(first, index, state.minute, slide.duration);
      if (state.guests.get(first).coins < slide.price) {
        slide.queue.remove(0);
      } else if (state.bookings.size() < 12 && fits(wish)) {
        slide.queue.remove(0);
        take(wish);
      }
    }
    Set<Integer> ridden = new HashSet<>();
    for (Booking booking : state.bookings) {
      if (booking.takesPlaceIn(state.minute)) {
        ridden.add(booking.slide);
      }
    }
    state.minute++;
    for (int index = 0; index < state.slides.size(); index++) {
      Slide slide = state.slides.get(index);
      if (!ridden.contains(index) && slide.wetness > 0) {
        slide.wetness--;
      }
    }
    List<Booking> staying = new ArrayList<>();
    int finished = 0;
    for (Booking booking : state.bookings) {
      if (booking.start + booking.duration - 1 < state.minute) {
        finish(booking);
        finished++;
      } else {
        staying.add(booking);
      }
    }
    state.bookings = staying;
    return finished;
  }

  private void finish(Booking booking) {
    Slide slide = state.slides.get(booking.slide);
    if (slide.wetness >= 5) {
      state.splashes++;
      refund(booking.guest, slide.price / 2);
    }
    slide.wetness = slide.wetness + 2 > 9 ? 9 : slide.wetness + 2;
    state.guests.get(booking.guest).rides++;
    state.finishes.add(0, new Finish(booking.guest, booking.slide, state.minute));
    if (state.finishes.size() > 16) {
      state.finishes.remove(16);
    }
  }

  int queueOf(int guest) {
    needIndex(guest, state.guests.size());
    for (int slide = 0; slide < state.slides.size(); slide++) {
      if (state.slides.get(slide).queue.contains(guest)) {
        return slide;
      }
    }
    throw new NoSuchElementException();
  }

  int rider(int slide) {
    needIndex(slide, state.slides.size());
    for (Booking booking : state.bookings) {
      if (booking.slide == slide && booking.takesPlaceIn(state.minute)) {
        return booking.guest;
      }
    }
    throw new NoSuchElementException();
  }

  boolean isFree(int slide, int start) {
    needIndex(slide, state.slides.size());
    needStart(start);
    Booking wish = new Booking(-1, slide, start, state.slides.get(slide).duration);
    for (Booking booking : state.bookings) {
      if (booking.slide == slide && booking.meets(wish)) {
        return false;
      }
    }
    return true;
  }

  int firstFree(int slide, int from) {
    needIndex(slide, state.slides.size());
    needStart(from);
    for (int minute = from; minute <= state.minute + 120; minute++) {
      if (isFree(slide, minute)) {
        return minute;
      }
    }
    throw new NoSuchElementException();
  }

  /** Tries all subsets. */
  int mostWatched() {
    int size = state.bookings.size();
    int[] rivals = new int[size];
    for (int i = 0; i < size; i++) {
      for (int j = 0; j < size; j++) {
        if (i != j && state.bookings.get(i).meets(state.bookings.get(j))) {
          rivals[i] |= 1 << j;
        }
      }
    }
    int most = 0;
    for (int chosen = 0; chosen < 1 << size; chosen++) {
      boolean fine = true;
      for (int i = 0; i < size; i++) {
        fine = fine && ((chosen >> i & 1) == 0 || (rivals[i] & chosen) == 0);
      }
      most = fine ? Math.max(most, Integer.bitCount(chosen)) : most;
    }
    return most;
  }

  /** Counts in every minute that there can be. */
  int mostAtOnce() {
    int most = 0;
    for (int minute = state.minute - 10; minute <= state.minute + 130; minute++) {
      int together = 0;
      for (Booking booking : state.bookings) {
        together += booking.start <= minute && minute < booking.start + booking.duration ? 1 : 0;
      }
      most = Math.max(most, together);
    }
    return most;
  }

  int photoFinishes() {
    int pairs = 0;
    for (Finish one : state.finishes) {
      for (Finish other : state.finishes) {
        pairs += one != other && one.minute == other.minute ? 1 : 0;
      }
    }
    return pairs / 2;
  }

  List<Integer> bookingsByStart() {
    List<Integer> order = indices(state.bookings.size());
    order.sort((a, b) -> {
      Booking one = state.bookings.get(a);
      Booking other = state.bookings.get(b);
      return one.start != other.start ? one.start - other.start : one.slide - other.slide;
    });
    return order;
  }

  List<Integer> guestsByRides() {
    List<Integer> order = indices(state.guests.size());
    order.sort((a, b) -> {
      Guest one = state.guests.get(a);
      Guest other = state.guests.get(b);
      return one.rides != other.rides ? other.rides - one.rides : other.coins - one.coins;
    });
    return order;
  }

  List<Integer> slidesByWetness() {
    List<Integer> order = indices(state.slides.size());
    order.sort((a, b) -> state.slides.get(b).wetness - state.slides.get(a).wetness);
    return order;
  }

  private static List<Integer> indices(int size) {
    List<Integer> indices = new ArrayList<>();
    for (int i = 0; i < size; i++) {
      indices.add(i);
    }
    return indices;
  }

  int feed(char character) {
    need(input.length() < 60, new IllegalStateException());
    input += character;
    return input.length();
  }

  int runCommands() {
    String text = input;
    input = "";
    Matcher matcher = TEXT.matcher(text);
    if (!matcher.matches()) {
      errorPosition = firstWrong(text);
      throw new IllegalArgumentException();
    }
    String[] commands = text.split(";");
    int[] done = {0};
    try {
      return recorded(() -> {
        for (String command : commands) {
          perform(command.split(" "));
          done[0]++;
        }
        return commands.length;
      });
    } catch (RuntimeException e) {
      failedCommand = done[0];
      throw new UnsupportedOperationException();
    }
  }

  /** The longest beginning that can still be completed, found by trying it out. */
  private static int firstWrong(String text) {
    for (int i = 0; i < text.length(); i++) {
      Matcher matcher = TEXT.matcher(text.substring(0, i + 1));
      if (!matcher.matches() && !matcher.hitEnd()) {
        return i;
      }
    }
    return text.length();
  }

  private void perform(String[] words) {
    int[] numbers = new int[4];
    for (int i = 1; i < words.length; i++) {
      numbers[i] = Integer.parseInt(words[i]);
    }
    switch (words[0]) {
      case "slide" -> doBuild(numbers[1], numbers[2]);
      case "guest" -> doGuest();
      case "book" -> doBook(numbers[1], numbers[2], numbers[3]);
      case "cancel" -> doCancel(numbers[1]);
      case "queue" -> doQueue(numbers[1], numbers[2]);
      case "leave" -> doLeave(numbers[1]);
      default -> doWait(words.length == 1 ? 1 : numbers[1]);
    }
  }

  int writeSlide(int slide) {
    needIndex(slide, state.slides.size());
    Slide written = state.slides.get(slide);
    output = written.duration + "m" + written.price + "c" + written.wetness + "w";
    for (int index : bookingsByStart()) {
      Booking booking = state.bookings.get(index);
      if (booking.slide == slide) {
        output += " " + booking.guest + "@" + booking.start;
      }
    }
    return output.length();
  }

  int undo() {
    need(!past.isEmpty(), new IllegalStateException());
    state = past.remove(past.size() - 1);
    return past.size();
  }

  int save() {
    saved = state.copy();
    return state.bookings.size();
  }

  int restore() {
    need(saved != null, new IllegalStateException());
    state = saved.copy();
    past.clear();
    return state.bookings.size();
  }

  static void needIndex(int index, int size) {
    need(index >= 0 && index < size, new IndexOutOfBoundsException());
  }

  private void needStart(int start) {
    need(start >= state.minute && start <= state.minute + 120, new IllegalArgumentException());
  }

  private static void need(boolean holds, RuntimeException otherwise) {
    if (!holds) {
      throw otherwise;
    }
  }
}
