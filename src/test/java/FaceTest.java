import java.lang.reflect.Constructor;
import java.lang.reflect.Field;
import java.lang.reflect.Method;
import java.lang.reflect.Modifier;
import java.io.IOException;
import java.nio.file.Files;
import java.nio.file.Path;
import java.util.ArrayList;
import java.util.Collections;
import java.util.List;
import java.util.regex.Matcher;
import java.util.regex.Pattern;

/** The class has the face that the document shows, to the letter, and nothing else to be seen. */
public final class FaceTest {
  public static void main(String[] args) throws IOException {
    Check.due("face", declaredFace(), documentedFace());
    Check.due("class is public and final", Modifier.toString(SlidePark.class.getModifiers()),
        "public final");
    for (Field field : SlidePark.class.getDeclaredFields()) {
      Check.due("private " + field, Modifier.isPrivate(field.getModifiers()), true);
      Check.due("no static state " + field, !Modifier.isStatic(field.getModifiers())
          || Modifier.isFinal(field.getModifiers()), true);
    }
    for (Method method : SlidePark.class.getDeclaredMethods()) {
      Check.due("public or private " + method, method.isSynthetic()
          || Modifier.isPublic(method.getModifiers())
          || Modifier.isPrivate(method.getModifiers()), true);
    }
    dueNoPublicNameTwice(SlidePark.class);
    for (Class<?> inside : SlidePark.class.getDeclaredClasses()) {
      dueNoPublicNameTwice(inside);
      Check.due("static and not public " + inside, Modifier.isStatic(inside.getModifiers())
          && !Modifier.isPublic(inside.getModifiers()), true);
    }
    Check.due("some twelve classes", SlidePark.class.getDeclaredClasses().length <= 11, true);
    Check.close("FaceTest");
  }

  private static void dueNoPublicNameTwice(Class<?> type) {
    for (Method method : type.getDeclaredMethods()) {
      if (Modifier.isPrivate(method.getModifiers())) {
        for (Method shown : SlidePark.class.getMethods()) {
          Check.due(method + " bears the name of a public method",
              method.getName().equals(shown.getName()), false);
        }
      }
    }
  }

  private static List<String> declaredFace() {
    List<String> face = new ArrayList<>();
    for (Constructor<?> made : SlidePark.class.getConstructors()) {
      face.add("SlidePark(" + names(made.getParameterTypes()) + ")"
          + names(made.getExceptionTypes()));
    }
    for (Method method : SlidePark.class.getDeclaredMethods()) {
      if (Modifier.isPublic(method.getModifiers())) {
        face.add(method.getReturnType().getSimpleName() + " " + method.getName() + "("
            + names(method.getParameterTypes()) + ")" + names(method.getExceptionTypes()));
      }
    }
    Collections.sort(face);
    return face;
  }

  private static List<String> documentedFace() throws IOException {
    List<String> face = new ArrayList<>();
    Pattern shape = Pattern.compile("    public ([^(]*)\\(([^)]*)\\)(?: throws ([^;]*))?;");
    for (String line : Files.readAllLines(Path.of("../shared/DOC.md"))) {
      Matcher found = shape.matcher(line);
      if (found.matches()) {
        String types = found.group(2).replaceAll("(\\w+) \\w+", "$1").replace(", ", ",");
        String thrown = found.group(3) == null ? "" : found.group(3).replace(", ", ",");
        face.add(found.group(1) + "(" + types + ")" + thrown);
      }
    }
    Collections.sort(face);
    return face;
  }

  private static String names(Class<?>[] types) {
    List<String> names = new ArrayList<>();
    for (Class<?> type : types) {
      names.add(type.getSimpleName());
    }
    return String.join(",", names);
  }
}
