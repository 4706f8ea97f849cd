import java.io.IOException;
import java.lang.reflect.InvocationTargetException;
import java.lang.reflect.Method;
import java.lang.reflect.Modifier;
import java.net.URL;
import java.net.URLClassLoader;
import java.nio.file.Files;
import java.nio.file.Path;
import java.util.ArrayList;
import java.util.List;
import java.util.regex.Matcher;
import java.util.regex.Pattern;
import javax.tools.ToolProvider;

/**
 * The example of README.md, taken from the page itself, compiled and run: each line's answer must be
 * the number that stands behind it.
 */
public final class GlossedBooksReadme {
  private static final Path PAGE = Path.of("README.md");
  private static final Pattern BLOCK = Pattern.compile("(?s)```java\\n(.*?)```");
  private static final Pattern ANSWERED = Pattern.compile("(int (\\w+) = )?(.*);\\s*// (-?\\d+)(:.*)?");

  private static int wrong = 0;
  private static int checks = 0;

  /** Called by what is made of the page. */
  public static void due(String line, long got, long want) {
    checks++;
    if (got != want) {
      say("'" + line + "' answered " + got + ", the page says " + want);
    }
  }

  private static void say(String what) {
    wrong++;
    System.out.println(what);
  }

  private static List<String> blocks(String page) {
    List<String> blocks = new ArrayList<>();
    Matcher matcher = BLOCK.matcher(page);
    while (matcher.find()) {
      blocks.add(matcher.group(1));
    }
    return blocks;
  }

  /** The example's lines, those with an answer as calls of due(). */
  private static String withChecks(String example) {
    StringBuilder code = new StringBuilder();
    for (String line : example.split("\n")) {
      Matcher answered = ANSWERED.matcher(line);
      if (!answered.matches()) {
        code.append(line).append('\n');
        continue;
      }
      String value = answered.group(3);
      if (answered.group(1) != null) {
        code.append(answered.group(1)).append(value).append(";\n");
        value = answered.group(2);
      }
      String told = line.trim().replace("\\", "\\\\").replace("\"", "\\\"");
      code.append("GlossedBooksReadme.due(\"").append(told).append("\", ").append(value).append(", ");
      code.append(answered.group(4)).append("L);\n");
    }
    return code.toString();
  }

  private static void run(String helper, String example) throws IOException, ReflectiveOperationException {
    Path room = Files.createTempDirectory("readme");
    Path source = room.resolve("Example.java");
    Files.writeString(source, "public final class Example {\n" + helper
        + "public static void go() {\n" + withChecks(example) + "}\n}\n");
    String classes = System.getProperty("java.class.path");
    int answer = ToolProvider.getSystemJavaCompiler().run(null, null, null,
        "-cp", classes, "-d", room.toString(), source.toString());
    if (answer == 0) {
      try (URLClassLoader loader = new URLClassLoader(new URL[] {room.toUri().toURL()},
          GlossedBooksReadme.class.getClassLoader())) {
        loader.loadClass("Example").getMethod("go").invoke(null);
      } catch (InvocationTargetException thrown) {
        say("the example threw " + thrown.getCause());
      }
    } else {
      say("the example cannot be compiled");
    }
    try (java.util.stream.Stream<Path> files = Files.list(room)) {
      for (Path file : files.toList()) {
        Files.delete(file);
      }
    }
    Files.delete(room);
  }

  private static void everyCallIsShown(String examples) {
    for (Method method : GlossedBooks.class.getDeclaredMethods()) {
      boolean shown = examples.contains("books." + method.getName() + "(");
      if (Modifier.isPublic(method.getModifiers()) && !shown) {
        say(method.getName() + " is not shown");
      }
    }
  }

  /** The one feed of eight bytes that the page tells of in its words. */
  private static void feedOfTheText(String page) {
    if (!page.contains("`books.feed(7, 0x315B327C61335DL)` feeds `1[2|a3]`")) {
      say("the feed that is tested is no longer on the page");
    }
    GlossedBooks books = new GlossedBooks();
    due("feed", books.feed(7, 0x315B327C61335DL), 7);
    due("book", books.book(), 0);
    String text = "1[2|a3]";
    for (int i = 0; i < text.length(); i++) {
      due("print", books.print(0, i), text.charAt(i));
    }
  }

  private static void constantsOfThePage(String page) {
    String[] rows = {
      "`UNKNOWN` (" + GlossedBooks.UNKNOWN + ")", "`OUTSIDE` (" + GlossedBooks.OUTSIDE + ")",
      "`NOT` (" + GlossedBooks.NOT + ")", "`FULL` (" + GlossedBooks.FULL + ")",
      "`NONE` (" + GlossedBooks.NONE + ")"
    };
    for (String row : rows) {
      checks++;
      if (!page.contains(row)) {
        say(row + " is not told");
      }
    }
  }

  public static void main(String[] args) throws IOException, ReflectiveOperationException {
    String page = Files.readString(PAGE);
    List<String> blocks = blocks(page);
    if (blocks.size() == 2) {
      run(blocks.get(0), blocks.get(1));
      everyCallIsShown(blocks.get(0) + blocks.get(1));
    } else {
      say("the page has a helper and an example, not " + blocks.size() + " blocks");
    }
    feedOfTheText(page);
    constantsOfThePage(page);
    System.out.println(checks + " answers of README.md looked at, " + wrong + " not as told");
    if (wrong != 0 || checks < 40) {
      System.exit(1);
    }
  }
}
