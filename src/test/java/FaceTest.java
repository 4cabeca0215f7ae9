import java.io.IOException;
import java.lang.reflect.Constructor;
import java.lang.reflect.Field;
import java.lang.reflect.Method;
import java.lang.reflect.Modifier;
import java.nio.file.Files;
import java.nio.file.Path;
import java.util.Arrays;
import java.util.Set;
import java.util.TreeSet;
import java.util.regex.Matcher;
import java.util.regex.Pattern;

/** Promise 1, the public face, and those rules of LANGUAGE.md that can be seen from outside. */
public final class FaceTest {
  private static final String SOURCE = "src/main/java/WoodcutPress.java";
  private static final Checks CHECKS = new Checks("FaceTest");

  public static void main(String[] args) throws IOException {
    promise01NewObject();
    face();
    classesInside();
    String code = withoutComments(Files.readString(Path.of(SOURCE)));
    words(code);
    methodLengths(code);
    roomStaysSmall();
    CHECKS.end();
  }

  private static void promise01NewObject() {
    int[] counts = {0, 50, 1, 0, 40, 2, 0, 0, 0, 0, 192, 0, 0, 0, 0, 0, 0, 0, 0, 0};
    java.util.List<Integer> seen = Looks.seen(new Press());
    for (int i = 0; i < 20 + 192 * 5; i++) {
      CHECKS.same("look " + i + " at a new object", seen.get(i), i < 20 ? counts[i] : 0);
    }
    Press press = new Press();
    CHECKS.same("proof of a new object", press.proof(0, 0), Checks.NONE);
    CHECKS.same("undo of a new object", press.undo(), Checks.ILLEGAL);
    CHECKS.same("restore of a new object", press.restore(0), Checks.ILLEGAL);
    CHECKS.same("restore of a new object", press.restore(1), Checks.ILLEGAL);
    CHECKS.same("clearText of a new object", press.clearText(), 0);
    Press other = new Press();
    other.paint(0, 0, 4, 4, 2);
    other.cut(0);
    CHECKS.same("another object's lines", press.count(12), 0);
  }

  private static void face() {
    Set<String> due = new TreeSet<>(Arrays.asList("paint 5", "cut 1", "carve 4", "plug 2", "setPins 2", "set 2",
        "print 1", "take 1", "restore 1", "undo 0", "append 1", "clearText 0", "load 0", "count 1", "cell 3",
        "printed 4", "proof 2", "faults 3", "why 2", "tolerance 0", "trapFor 1", "bestPins 1", "printsLeft 0"));
    Set<String> got = new TreeSet<>();
    Set<String> publicNames = new TreeSet<>();
    for (Method method : WoodcutPress.class.getDeclaredMethods()) {
      if (!Modifier.isPrivate(method.getModifiers()) && !method.isSynthetic()) {
        CHECKS.holds(method + " is public", Modifier.isPublic(method.getModifiers()));
        CHECKS.holds(method + " answers an int", method.getReturnType() == int.class);
        got.add(method.getName() + " " + method.getParameterCount());
        publicNames.add(method.getName());
      }
    }
    CHECKS.holds("the methods of the face are " + got, got.equals(due));
    for (Method method : WoodcutPress.class.getDeclaredMethods()) {
      if (Modifier.isPrivate(method.getModifiers())) {
        CHECKS.holds(method + " has a name of its own", !publicNames.contains(method.getName()));
      }
    }
    for (Class<?> inside : WoodcutPress.class.getDeclaredClasses()) {
      for (Method method : inside.getDeclaredMethods()) {
        CHECKS.holds(method + " has a name of its own", !publicNames.contains(method.getName()));
      }
    }
    Set<String> constants = new TreeSet<>();
    for (Field field : WoodcutPress.class.getDeclaredFields()) {
      if (!Modifier.isPrivate(field.getModifiers())) {
        CHECKS.holds(field + " is a constant", field.getModifiers() == (Modifier.PUBLIC | Modifier.STATIC | Modifier.FINAL));
        constants.add(field.getName());
      }
    }
    CHECKS.holds("the constants of the face are " + constants, constants.equals(new TreeSet<>(
        Arrays.asList("INVALID_ARGUMENT", "ILLEGAL_STATE", "CAPACITY_EXCEEDED", "NONE"))));
    CHECKS.same("INVALID_ARGUMENT", WoodcutPress.INVALID_ARGUMENT, -1001);
    CHECKS.same("ILLEGAL_STATE", WoodcutPress.ILLEGAL_STATE, -1002);
    CHECKS.same("CAPACITY_EXCEEDED", WoodcutPress.CAPACITY_EXCEEDED, -1003);
    CHECKS.same("NONE", WoodcutPress.NONE, -1009);
    CHECKS.holds("the class is public and final", WoodcutPress.class.getModifiers() == (Modifier.PUBLIC | Modifier.FINAL));
    Constructor<?>[] constructors = WoodcutPress.class.getDeclaredConstructors();
    CHECKS.same("constructors", constructors.length, 1);
    CHECKS.holds("the constructor is public", Modifier.isPublic(constructors[0].getModifiers()));
    CHECKS.same("the constructor's arguments", constructors[0].getParameterCount(), 0);
  }

  private static void classesInside() {
    Class<?>[] inside = WoodcutPress.class.getDeclaredClasses();
    CHECKS.holds("at most twelve classes", inside.length + 1 <= 12);
    fewFields(WoodcutPress.class);
    for (Class<?> one : inside) {
      int modifiers = one.getModifiers();
      CHECKS.holds(one + " is static", Modifier.isStatic(modifiers));
      CHECKS.holds(one + " is not public", !Modifier.isPublic(modifiers) && !Modifier.isProtected(modifiers));
      fewFields(one);
    }
  }

  private static void fewFields(Class<?> one) {
    int fields = 0;
    for (Field field : one.getDeclaredFields()) {
      if (Modifier.isStatic(field.getModifiers())) {
        CHECKS.holds(field + " is final", Modifier.isFinal(field.getModifiers()));
      } else {
        fields++;
      }
    }
    CHECKS.holds(one + " has at most 20 fields", fields <= 20);
    for (Method method : one.getDeclaredMethods()) {
      CHECKS.holds(method + " takes at most 7 arguments", method.getParameterCount() <= 7);
    }
  }

  private static String withoutComments(String source) {
    return source.replaceAll("(?s)/\\*.*?\\*/", "").replaceAll("//[^\n]*", "");
  }

  private static void words(String code) {
    String[] banned = {"\\b(throw|throws|try|catch|finally|synchronized|assert|protected|package)\\b",
        "->", "::", "\\w+Exact\\b", "\\bnew\\s+Random", "\\bSystem\\.(?!arraycopy)", "\\b(Thread|Object|Math\\.random)\\b",
        "\\b(equals|hashCode|toString)\\b", "\"", "\\bstatic\\s*\\{", "@"};
    for (String one : banned) {
      Matcher matcher = Pattern.compile(one).matcher(code);
      CHECKS.holds("the source is without " + one, !matcher.find());
    }
    Matcher imports = Pattern.compile("\\bimport\\s+([^;]+);").matcher(code);
    while (imports.find()) {
      CHECKS.holds("import " + imports.group(1), imports.group(1).equals("java.util.Arrays"));
    }
    for (int i = 0; i < code.length(); i++) {
      if (code.charAt(i) > 127) {
        CHECKS.same("a sign of the source", code.charAt(i), 127);
      }
    }
  }

  /** A method's lines are those between a line that ends in "{" and the "}" as deep as it. */
  private static void methodLengths(String code) {
    String[] lines = code.split("\n");
    for (int i = 0; i < lines.length; i++) {
      boolean head = lines[i].matches(" {4,8}[\\w\\[\\] ]+\\(.*") && !lines[i].contains(";");
      if (head) {
        String depth = lines[i].replaceAll("\\S.*", "");
        int end = i;
        while (!lines[end].startsWith(depth + "}")) {
          end++;
        }
        CHECKS.holds("line " + lines[i].trim() + " has at most 60 lines", end - i <= 60);
      }
    }
  }

  /** No call makes an object that is kept: the rows that the constructor makes serve all calls. */
  private static void roomStaysSmall() {
    Press press = Checks.framed(2);
    Room before = new Room();
    before.enter(press.inside);
    for (int i = 0; i < 20; i++) {
      press.paint(i % 16, i % 12, 1, 1, i % 3);
      press.cut(i % 5);
      press.take(i % 2);
      press.print(3);
      press.restore(i % 2);
      press.undo();
      Checks.load(press, "3:16l;");
      press.trapFor(4);
      press.bestPins(2);
    }
    Room after = new Room();
    after.enter(press.inside);
    CHECKS.same("objects", after.objects(), before.objects());
    CHECKS.same("elements", after.elements(), before.elements());
    CHECKS.holds("a press has at most 400 objects, not " + after.objects(), after.objects() <= 400);
    CHECKS.holds("a press has at most 8000 elements, not " + after.elements(), after.elements() <= 8000);
  }
}
