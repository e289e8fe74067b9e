import java.lang.reflect.Constructor;
import java.lang.reflect.Field;
import java.lang.reflect.Method;
import java.lang.reflect.Modifier;
import java.nio.file.Files;
import java.nio.file.Path;
import java.util.Arrays;
import java.util.Map;
import java.util.NoSuchElementException;
import java.util.TreeMap;
import java.util.regex.Matcher;
import java.util.regex.Pattern;

/** The public face of the document, and what of LANGUAGE.md can be seen in the class or its text. */
public final class FaceTest {
  private static final Check CHECK = new Check();
  private static final String[] FACE = {
    "boolean below(int, int)", "int diary(int, int, int, int)",
    "int line(int, int, int, int, int, int, int)", "int feed(long, long, long)", "int text()",
    "boolean choose(int)", "int code(int, int)", "int look(int, int, int)", "int ten(int, int)",
    "boolean known(int, int)", "int rounds(int)", "int weight(int)", "int cell(int, int, boolean)",
    "int lead(int, int, int)", "int next(int, int)", "int quarrels(int, int)", "int day(int, int)",
    "int count(int)"};
  private static final String[] FORBIDDEN = {
    "(?m)^(?!\\s*(case|default)\\b)[^\n]*->", "::", "\\bfinally\\b", "\\bsynchronized\\b",
    "\\bassert\\b", "\\bpackage\\b", "\\bprotected\\b", "Exact\\b",
    "\\bSystem\\.(?!arraycopy)", "\\bObject\\b", "[^\\x00-\\x7f]",
    "\\bNullPointerException\\b", "\\bArrayIndexOutOfBoundsException\\b", "\\bClassCastException\\b",
    "\\bNegativeArraySizeException\\b", "\\bArrayStoreException\\b", "\\bException\\b",
    "\\bThrowable\\b", "\\bError\\b"};
  private static final Pattern METHOD = Pattern.compile(
      "[\\w>\\]]+ +\\w+\\([^()]*\\)\\s*(throws [\\w, ]+)?\\{");

  public static void main(String[] args) throws Exception {
    publicMembers();
    noOtherMemberIsVisible();
    nestedClasses();
    sourceText();
    CHECK.end("FaceTest");
  }

  private static String describe(Method m) {
    String parameters = Arrays.toString(Arrays.stream(m.getParameterTypes())
        .map(Class::getName).toArray());
    return m.getReturnType().getName() + " " + m.getName() + "("
        + parameters.substring(1, parameters.length() - 1) + ")";
  }

  private static void publicMembers() throws Exception {
    Map<String, Method> found = new TreeMap<>();
    for (Method m : DayDiary.class.getDeclaredMethods()) {
      if (Modifier.isPublic(m.getModifiers())) {
        found.put(describe(m), m);
      }
    }
    for (String due : FACE) {
      CHECK.due(due + " is there", found.containsKey(due), true);
    }
    CHECK.due("public methods", found.size(), FACE.length);
    for (Method m : found.values()) {
      boolean throwing = m.getName().equals("look") || m.getName().equals("day");
      CHECK.due(m + " is static", Modifier.isStatic(m.getModifiers()), false);
      CHECK.due(m + " throws", Arrays.equals(m.getExceptionTypes(),
          throwing ? new Class<?>[] {NoSuchElementException.class} : new Class<?>[0]), true);
    }
    Constructor<?>[] makers = DayDiary.class.getDeclaredConstructors();
    CHECK.due("constructors", makers.length, 1);
    CHECK.due("its parameters", makers[0].getParameterCount(), 0);
    CHECK.due("it is public", Modifier.isPublic(makers[0].getModifiers()), true);
    CHECK.due("the class is public and final", DayDiary.class.getModifiers(),
        Modifier.PUBLIC | Modifier.FINAL);
    CHECK.due("NONE", DayDiary.class.getField("NONE").getInt(null), -1);
  }

  private static void noOtherMemberIsVisible() {
    for (Field f : DayDiary.class.getDeclaredFields()) {
      boolean none = f.getName().equals("NONE");
      CHECK.due(f + " is private", Modifier.isPrivate(f.getModifiers()), !none);
    }
    for (Method m : DayDiary.class.getDeclaredMethods()) {
      boolean face = Modifier.isPublic(m.getModifiers());
      CHECK.due(m + " is private", Modifier.isPrivate(m.getModifiers()), !face);
      if (!face) {
        noFaceName(m);
      }
    }
  }

  private static void noFaceName(Method m) {
    for (String due : FACE) {
      CHECK.due(m + " bears a public name", due.contains(" " + m.getName() + "("), false);
    }
  }

  private static void nestedClasses() {
    Class<?>[] nested = DayDiary.class.getDeclaredClasses();
    CHECK.due("twelve classes at most", nested.length < 12, true);
    for (Class<?> c : nested) {
      CHECK.due(c + " is static", Modifier.isStatic(c.getModifiers()), true);
      CHECK.due(c + " is public", Modifier.isPublic(c.getModifiers()), false);
      int fields = 0;
      for (Field f : c.getDeclaredFields()) {
        fields += Modifier.isStatic(f.getModifiers()) ? 0 : 1;
      }
      CHECK.due(c + " has twenty fields at most", fields <= 20, true);
      for (Method m : c.getDeclaredMethods()) {
        CHECK.due(m + " has seven parameters at most", m.getParameterCount() <= 7, true);
        noFaceName(m);
      }
    }
  }

  private static void sourceText() throws Exception {
    String source = Files.readString(Path.of("src/main/java/DayDiary.java"));
    String code = source.replaceAll("(?s)/\\*.*?\\*/", "").replaceAll("//[^\n]*", "")
        .replaceAll("\"[^\"\n]*\"", "\"\"");
    for (String forbidden : FORBIDDEN) {
      Matcher m = Pattern.compile(forbidden).matcher(code);
      CHECK.due("the source has " + forbidden, m.find(), false);
    }
    Matcher imports = Pattern.compile("import ([^;]+);").matcher(code);
    while (imports.find()) {
      CHECK.due("import " + imports.group(1), imports.group(1)
          .matches("java\\.util\\.(ArrayList|List|Arrays|NoSuchElementException)"), true);
    }
    Matcher methods = METHOD.matcher(code);
    while (methods.find()) {
      CHECK.due(methods.group() + " has some sixty lines at most",
          linesOfBlock(code, methods.end()) <= 65, true);
    }
  }

  /** From behind an opening bracket to the one that closes it. */
  private static int linesOfBlock(String code, int start) {
    int open = 1;
    int lines = 1;
    for (int i = start; i < code.length() && open > 0; i++) {
      char sign = code.charAt(i);
      open += sign == '{' ? 1 : sign == '}' ? -1 : 0;
      lines += sign == '\n' ? 1 : 0;
    }
    return lines;
  }
}
