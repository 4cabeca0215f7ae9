import java.io.IOException;
import java.lang.reflect.Method;
import java.lang.reflect.Modifier;
import java.nio.file.Files;
import java.nio.file.Path;
import java.util.Arrays;
import java.util.Set;
import java.util.TreeSet;
import java.util.regex.Matcher;
import java.util.regex.Pattern;

/** README.md shows how to use the class: its calls answer what stands beside them, and no call or code is left out. */
public final class ReadmeTest {
  private static final Checks CHECKS = new Checks("ReadmeTest");

  public static void main(String[] args) throws ReflectiveOperationException, IOException {
    String page = Files.readString(Path.of("README.md"));
    shownCalls(page);
    allCalls(page);
    allCodes(page);
    CHECKS.end();
  }

  /** The calls of the first example, then the text of the second one, on one press. */
  private static void shownCalls(String page) throws ReflectiveOperationException {
    WoodcutPress press = new WoodcutPress();
    Matcher shown = Pattern.compile("\n    press\\.(\\w+)\\(([-\\d, ]*)\\); *// (-?\\d+|[A-Z_]+)").matcher(page);
    int calls = 0;
    while (shown.find()) {
      if (shown.group(1).equals("load")) {
        write(press, shownText(page));
      }
      int due = shown.group(3).matches("[A-Z_]+") ? constant(shown.group(3)) : Integer.parseInt(shown.group(3));
      CHECKS.same("README.md, " + shown.group(1) + "(" + shown.group(2) + ")", call(press, shown.group(1), shown.group(2)), due);
      calls++;
    }
    CHECKS.same("calls that README.md shows", calls, 9);
    write(press, "2:3w8l5w");
    CHECKS.same("README.md, the error position", press.load(), -2008);
    CHECKS.holds("README.md tells of it", page.contains("\"2:3w8l5w\" it would be -2008"));
  }

  private static String shownText(String page) {
    Matcher text = Pattern.compile("\"([^\"]*)\"\\.toCharArray").matcher(page);
    CHECKS.holds("README.md shows a text", text.find());
    return text.group(1);
  }

  private static void write(WoodcutPress press, String text) {
    for (char character : text.toCharArray()) {
      press.append(character);
    }
  }

  private static int constant(String name) throws ReflectiveOperationException {
    return WoodcutPress.class.getField(name).getInt(null);
  }

  private static int call(WoodcutPress press, String name, String arguments) throws ReflectiveOperationException {
    Object[] values = arguments.isBlank() ? new Object[0]
        : Arrays.stream(arguments.split(",")).map(one -> Integer.valueOf(one.strip())).toArray();
    Class<?>[] types = new Class<?>[values.length];
    Arrays.fill(types, int.class);
    return (Integer) WoodcutPress.class.getMethod(name, types).invoke(press, values);
  }

  /** The table of calls has a row for each method of the face, with as many arguments. */
  private static void allCalls(String page) {
    Set<String> due = new TreeSet<>();
    for (Method method : WoodcutPress.class.getDeclaredMethods()) {
      if (Modifier.isPublic(method.getModifiers())) {
        due.add(method.getName() + " " + method.getParameterCount());
      }
    }
    Set<String> told = new TreeSet<>();
    Matcher row = Pattern.compile("\n\\| `(\\w+)\\(([^)]*)\\)`").matcher(page);
    while (row.find()) {
      told.add(row.group(1) + " " + (row.group(2).isEmpty() ? 0 : row.group(2).split(",").length));
    }
    CHECKS.holds("README.md tells of " + due + ", not " + told, told.equals(due));
  }

  private static void allCodes(String page) throws ReflectiveOperationException {
    for (String name : new String[] {"INVALID_ARGUMENT", "ILLEGAL_STATE", "CAPACITY_EXCEEDED", "NONE"}) {
      CHECKS.holds("README.md tells what " + name + " means", page.contains("| " + constant(name) + " | `" + name + "` |"));
    }
  }
}
