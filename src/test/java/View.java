/**
 * All that can be seen of the undone and saved state of an office, as one text. It asks through the
 * methods that change nothing, and leaves the output alone.
 */
final class View {
  private View() {
  }

  static String of(SlidePark park) {
    StringBuilder view = new StringBuilder();
    view.append("minute ").append(park.minute()).append(" office ").append(park.officeCoins());
    view.append(" refunded ").append(park.refundedCoins()).append(" splashes ")
        .append(park.splashes());
    int slides = park.slideCount();
    for (int slide = 0; slide < slides; slide++) {
      view.append("\nslide ").append(park.duration(slide)).append(' ').append(park.price(slide))
          .append(' ').append(park.wetness(slide)).append(" queue");
      int length = park.queueLength(slide);
      for (int position = 0; position < length; position++) {
        view.append(' ').append(park.queuedGuest(slide, position));
      }
    }
    int guests = park.guestCount();
    for (int guest = 0; guest < guests; guest++) {
      int asked = guest;
      view.append("\nguest ").append(park.coins(guest)).append(' ').append(park.rides(guest))
          .append(" in ").append(Check.outcome(() -> park.queueOf(asked)));
    }
    int bookings = park.bookingCount();
    for (int booking = 0; booking < bookings; booking++) {
      view.append("\nbooking ").append(park.bookedGuest(booking)).append(' ')
          .append(park.bookedSlide(booking)).append(' ').append(park.start(booking)).append(' ')
          .append(park.hasStarted(booking));
    }
    int finishes = park.finishCount();
    for (int back = 0; back < finishes; back++) {
      view.append("\nfinish ").append(park.finishedGuest(back)).append(' ')
          .append(park.finishedSlide(back)).append(' ').append(park.finishMinute(back));
    }
    return view.toString();
  }
}
