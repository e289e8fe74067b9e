import java.io.IOException;
import java.lang.reflect.InvocationTargetException;
import java.lang.reflect.Method;
import java.lang.reflect.Modifier;
import java.nio.file.Files;
import java.nio.file.Path;
import java.util.ArrayList;
import java.util.List;
import java.util.NoSuchElementException;
import java.util.Set;
import java.util.TreeSet;
import java.util.regex.Matcher;
import java.util.regex.Pattern;
import java.util.stream.Stream;

/** README.md: the calls that it shows answer as it says, and no method or test goes untold. */
public final class ReadmeTest {
  private static final Path TESTS = Path.of("src/test/java");
  private static final String MAKE = "DayDiary x = new DayDiary();";
  private static final Pattern BLOCK = Pattern.compile("(?s)```java\n(.*?)```");
  private static final Pattern FEED = Pattern.compile("feed\\(x, \"(.*)\"\\); +// (\\d+)(: .*)?");
  private static final Pattern CALL = Pattern.compile(
      "x\\.(\\w+)\\(([^)]*)\\); +// (-?\\d+|true|false|NoSuchElementException)(: .*)?");
  private static final Check CHECK = new Check();

  private final Set<String> told = new TreeSet<>();
  private DayDiary x = null;

  public static void main(String[] args) throws Exception {
    String readme = Files.readString(Path.of("README.md"));
    ReadmeTest test = new ReadmeTest();
    for (String block : blocks(readme)) {
      if (block.startsWith("static ")) {
        sameAsInCheck(block);
      } else {
        test.run(block);
      }
    }
    test.everyMethodIsTold();
    everyTestIsNamed(readme);
    CHECK.end("ReadmeTest");
  }

  private static List<String> blocks(String readme) {
    List<String> found = new ArrayList<>();
    Matcher m = BLOCK.matcher(readme);
    while (m.find()) {
      found.add(m.group(1));
    }
    CHECK.due("README.md has blocks of calls", found.size() > 1, true);
    return found;
  }

  /** What README.md offers for feeding a text is what the tests feed by, so that it is known good. */
  private static void sameAsInCheck(String block) throws IOException {
    String check = plain(Files.readString(TESTS.resolve("Check.java")));
    for (String function : block.split("\n\n")) {
      CHECK.due("Check.java has " + function, check.contains(plain(function)), true);
    }
  }

  private static String plain(String code) {
    return code.replaceAll("\\s+", " ").trim();
  }

  private void run(String block) throws Exception {
    for (String line : block.split("\n")) {
      Matcher feed = FEED.matcher(line);
      Matcher call = CALL.matcher(line);
      if (line.equals(MAKE)) {
        x = new DayDiary();
      } else if (feed.matches()) {
        CHECK.due(line, Check.feed(x, feed.group(1)), Long.parseLong(feed.group(2)));
      } else if (call.matches()) {
        told.add(call.group(1));
        String got = answer(call.group(1), call.group(2));
        CHECK.due(line + " (answered " + got + ")", got.equals(call.group(3)), true);
      } else {
        CHECK.due(line + " can be read as a call with its answer", line.isBlank(), true);
      }
    }
  }

  private String answer(String name, String arguments) throws Exception {
    String[] texts = arguments.isEmpty() ? new String[0] : arguments.split(", ");
    Method method = find(name);
    Object[] values = new Object[texts.length];
    for (int i = 0; i < texts.length; i++) {
      values[i] = value(texts[i], method.getParameterTypes()[i]);
    }
    try {
      return String.valueOf(method.invoke(x, values));
    } catch (InvocationTargetException e) {
      boolean due = e.getCause().getClass() == NoSuchElementException.class;
      return due ? "NoSuchElementException" : e.getCause().toString();
    }
  }

  private static Method find(String name) {
    for (Method m : DayDiary.class.getDeclaredMethods()) {
      if (Modifier.isPublic(m.getModifiers()) && m.getName().equals(name)) {
        return m;
      }
    }
    throw new AssertionError("README.md calls " + name + ", which the class does not have");
  }

  private static Object value(String text, Class<?> type) {
    if (type == boolean.class) {
      return Boolean.valueOf(text);
    }
    if (type == long.class) {
      return Long.decode(text.replaceAll("L$", ""));
    }
    return text.equals("DayDiary.NONE") ? DayDiary.NONE : Integer.parseInt(text);
  }

  private void everyMethodIsTold() {
    for (Method m : DayDiary.class.getDeclaredMethods()) {
      if (Modifier.isPublic(m.getModifiers())) {
        CHECK.due("README.md shows " + m.getName(), told.contains(m.getName()), true);
      }
    }
  }

  private static void everyTestIsNamed(String readme) throws IOException {
    try (Stream<Path> files = Files.list(TESTS)) {
      files.map(file -> file.getFileName().toString().replace(".java", ""))
          .filter(name -> name.endsWith("Test"))
          .forEach(name -> CHECK.due("README.md names " + name,
              readme.contains("`" + name + "`"), true));
    }
  }
}
