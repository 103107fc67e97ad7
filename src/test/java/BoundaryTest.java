import java.io.IOException;
import java.lang.reflect.InvocationTargetException;
import java.lang.reflect.Method;
import java.util.ArrayList;
import java.util.Arrays;
import java.util.Comparator;
import java.util.List;

/**
 * Runs a test for each sentence of the document that names a boundary: the methods under "Says" in
 * the classes below. It also looks whether each quoted sentence stands in the document, and whether
 * each sentence of "Terms" and each text of a promise that names a number or an exception has a
 * test.
 */
public final class BoundaryTest {
  private static final List<Class<?>> GROUPS = List.of(SlideBounds.class, GuestBounds.class,
      BookingBounds.class, QueueBounds.class, MinuteBounds.class, WetnessBounds.class,
      FinishBounds.class, FreeBounds.class, WatchBounds.class, BufferBounds.class,
      CommandBounds.class, OutputBounds.class, UndoBounds.class, ErrorBounds.class);

  private static final List<String> WITHOUT_A_BOUNDARY = List.of(
      "Terms: Slides are booked for minutes ahead or used by guests who wait in queues, wet brakes "
          + "cause splashes that are refunded, and the latest finishes are kept for photographs.",
      "Terms: The class finds free minutes, the greatest number of bookings that can be watched, "
          + "and how many take place at once, each in two ways, carries out text commands, and can "
          + "undo changes.",
      "Time: Time is counted in minutes.");

  public static void main(String[] args) throws IOException, IllegalAccessException {
    Document document = new Document();
    List<String> tested = new ArrayList<>(WITHOUT_A_BOUNDARY);
    for (Class<?> group : GROUPS) {
      Method[] methods = group.getDeclaredMethods();
      Arrays.sort(methods, Comparator.comparing(Method::getName));
      for (Method method : methods) {
        Says says = method.getAnnotation(Says.class);
        if (says != null) {
          tested.addAll(List.of(says.value()));
          run(method, says.value()[0]);
        }
      }
    }
    Check.about("");
    for (String quote : tested) {
      Check.due("the document says \"" + quote + "\"", document.says(quote), true);
    }
    dueTested(document.terms(), tested);
    dueTested(document.boundariesOfPromises(), tested);
    Check.close("BoundaryTest");
  }

  private static void run(Method method, String sentence) throws IllegalAccessException {
    Check.about(method.getName() + " (" + sentence + "): ");
    try {
      method.invoke(null);
    } catch (InvocationTargetException e) {
      Check.fail("the test ended with " + e.getCause());
    }
  }

  private static void dueTested(List<String> sentences, List<String> tested) {
    for (String sentence : sentences) {
      boolean found = false;
      for (String quote : tested) {
        String head = quote.replaceAll(": .*", ": ");
        found = found || sentence.startsWith(head)
            && sentence.contains(quote.substring(head.length()));
      }
      Check.due("\"" + sentence + "\" has a test", found, true);
    }
  }
}
