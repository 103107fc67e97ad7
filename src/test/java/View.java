/**
 * All that can be seen of the undone and saved state of an office, as one text. It asks through the
 * methods that change nothing, and leaves the output alone.
 */
final class View {
  private View() {
  }

  static String of(SlidePark park) {
    StringBuilder view = new StringBuilder();
    view.append("minute ").append(park.minute()).append(" office ").append(park.officeCoins());
    view.append(" refunded ").append(park.refundedCoins()).append(" splashes ")
        .append(park.splashes());
    for (int slide = 0; slide < park.slideCount(); slide++) {
      view.append("\nslide ").append(park.duration(slide)).append(' ').append(park.price(slide))
          .append(' ').append(park.wetness(slide)).append(" queue");
      for (int position = 0; position < park.queueLength(slide); position++) {
        view.append(' ').append(park.queuedGuest(slide, position));
      }
    }
    for (int guest = 0; guest < park.guestCount(); guest++) {
      int asked = guest;
      view.append("\nguest ").append(park.coins(guest)).append(' ').append(park.rides(guest))
          .append(" in ").append(Check.outcome(() -> park.queueOf(asked)));
    }
    for (int booking = 0; booking < park.bookingCount(); booking++) {
      view.append("\nbooking ").append(park.bookedGuest(booking)).append(' ')
          .append(park.bookedSlide(booking)).append(' ').append(park.start(booking)).append(' ')
          .append(park.hasStarted(booking));
    }
    for (int back = 0; back < park.finishCount(); back++) {
      view.append("\nfinish ").append(park.finishedGuest(back)).append(' ')
          .append(park.finishedSlide(back)).append(' ').append(park.finishMinute(back));
    }
    return view.toString();
  }
}
