import com.sun.management.ThreadMXBean;
import java.io.IOException;
import java.lang.management.ManagementFactory;
import java.lang.reflect.Field;
import java.lang.reflect.Member;
import java.lang.reflect.Method;
import java.lang.reflect.Modifier;
import java.nio.file.Files;
import java.nio.file.Path;
import java.util.Arrays;
import java.util.List;
import java.util.TreeSet;
import java.util.regex.Matcher;
import java.util.regex.Pattern;

/** The face of the document, what LANGUAGE.md rules out, and the room that calls take. */
public final class GlossedBooksRules {
  private static final String SOURCE = "src/main/java/GlossedBooks.java";

  private static final String[] FACE = {
    "int feed(int,long)", "int book()", "int hand(int)", "int fault()", "int habit(int,int)",
    "int copy(int,int)", "int taken(int,int,boolean)", "int amend(int,int,int)", "int lift(int,int)",
    "int print(int,int)", "int word(int,int)", "int about(int,int)", "int gloss(int,int,int)",
    "int count(int)", "int distance(int,int)", "int beside(int,int,int)", "int slipped(int,int)",
    "int reading(int,int,int)", "int most(int,int,int,int)", "int restored(int,int,int)",
    "int group(int,int,int)", "int clash(int,int)", "int sound(int,int,int)", "int parent(int,int,int)",
    "int tree(int,int,int)", "long explained(int,int)", "int steps(int,int,int)", "long round(int)"
  };

  private static final String[] RULED_OUT = {
    "\\bthrows?\\b", "\\btry\\b", "\\bcatch\\b", "\\bsynchronized\\b", "\\bassert\\b", "\\bimport\\b",
    "\\bpackage\\b", "->", "::", "\\bprotected\\b", "\\bhashCode\\b", "\\btoString\\b", "\\bvar\\b",
    "\\bstatic\\s*\\{", "\\bwhile\\s*\\(\\s*true", "\\bSystem\\.(out|err|exit|nano|current)", "\\bRandom\\b",
    // An element of an array is named and tested against null before something is called on it.
    "\\][.](?!length\\b)"
  };

  private static int wrong = 0;
  private static int checks = 0;

  private static void must(boolean holds, String what) {
    checks++;
    if (!holds) {
      wrong++;
      System.out.println("not so: " + what);
    }
  }

  private static String signature(Method method) {
    StringBuilder text = new StringBuilder();
    text.append(method.getReturnType().getSimpleName()).append(' ').append(method.getName()).append('(');
    for (Class<?> type : method.getParameterTypes()) {
      text.append(text.charAt(text.length() - 1) == '(' ? "" : ",").append(type.getSimpleName());
    }
    return text.append(')').toString();
  }

  private static void faceIsTheDocuments() {
    List<String> face = Arrays.asList(FACE);
    TreeSet<String> found = new TreeSet<>();
    for (Method method : GlossedBooks.class.getDeclaredMethods()) {
      if (Modifier.isPublic(method.getModifiers())) {
        found.add(signature(method));
        must(face.contains(signature(method)), signature(method) + " is of the document");
      } else {
        must(isHidden(method), method.getName() + " is private");
        must(!namesOfFace().contains(method.getName()), method.getName() + " bears a name of its own");
      }
    }
    must(found.size() == FACE.length, "all methods of the document are there");
    must(Modifier.isFinal(GlossedBooks.class.getModifiers()), "the class is final");
    must(GlossedBooks.class.getDeclaredConstructors().length == 1, "there is one constructor");
    List<String> constants = List.of("NONE", "UNKNOWN", "OUTSIDE", "NOT", "FULL");
    for (Field field : GlossedBooks.class.getDeclaredFields()) {
      must(constants.contains(field.getName()) || isHidden(field), field.getName() + " is private");
    }
    for (Class<?> inside : GlossedBooks.class.getDeclaredClasses()) {
      must(Modifier.isStatic(inside.getModifiers()), inside + " is static");
      for (Method method : inside.getDeclaredMethods()) {
        must(!namesOfFace().contains(method.getName()), inside + " has no method of the face's names");
      }
    }
    must(GlossedBooks.class.getDeclaredClasses().length <= 11, "twelve classes at most");
  }

  private static TreeSet<String> namesOfFace() {
    TreeSet<String> names = new TreeSet<>();
    for (String signature : FACE) {
      names.add(signature.substring(signature.indexOf(' ') + 1, signature.indexOf('(')));
    }
    return names;
  }

  private static boolean isHidden(Member member) {
    return Modifier.isPrivate(member.getModifiers()) || member.isSynthetic();
  }

  private static void sourceKeepsToTheLanguage() throws IOException {
    String source = Files.readString(Path.of(SOURCE));
    String code = source.replaceAll("(?s)/\\*.*?\\*/", " ").replaceAll("//[^\\n]*", " ");
    for (String rule : RULED_OUT) {
      Matcher matcher = Pattern.compile(rule).matcher(code);
      must(!matcher.find(), rule + " stands nowhere");
    }
    for (int i = 0; i < source.length(); i++) {
      if (source.charAt(i) > 127) {
        must(false, "sign " + i + " is in 1 to 127");
      }
    }
    Matcher statics = Pattern.compile("static (?!final|boolean \\w+\\(|int \\w+\\(|void \\w+\\(|String \\w+\\()").matcher(code);
    must(!statics.find(), "static fields are final");
    methodsAreShort(source);
  }

  private static void methodsAreShort(String source) {
    int length = 0;
    boolean inside = false;
    for (String line : source.split("\n")) {
      if (line.matches("  (  )?(public|private|static|int|long|boolean|void|Row|Gloss|Book|Hand|[A-Z]\\w+\\().*\\) \\{")) {
        inside = true;
        length = 0;
      }
      length++;
      if (inside && line.matches("  (  )?\\}")) {
        must(length <= 60, "a method has 60 lines at most: " + line);
        inside = false;
      }
    }
  }

  private static void tell(GlossedBooks x, String text) {
    for (char c : text.toCharArray()) {
      x.feed(1, c);
    }
  }

  private static void callsOfARun(GlossedBooks x) {
    tell(x, "1[2|a3[4|b5]|b6]7 1[8|a9]2 3 4 5 6 7 8 9 10 11 12 13 14 15 16");
    x.book();
    tell(x, "for 1 2 2;skip 9 2;turn 3;into ahead 1;drop 3;move 1;");
    x.hand(0);
    for (int b = 0; b < 9; b++) {
      x.copy(b, 0);
    }
    for (int turn = 0; turn < 12; turn++) {
      x.print(turn % 10, turn);
      x.about(turn % 10, 5);
      x.gloss(turn % 10, 0, 6);
      x.amend(turn % 10, turn, 5);
      x.lift(turn % 10, 1);
      x.slipped(0, turn % 10);
      x.most(0, 1023, turn, 0);
      x.restored(0, 1023, NONE);
      x.clash(0, 1023);
      x.sound(0, 1023, NONE);
      x.parent(0, 1023, turn % 10);
      x.tree(turn % 10, 1023, 1);
      x.explained(0, turn);
      x.steps(0, turn, turn);
      x.round(turn % 10);
    }
  }

  private static final int NONE = -1;

  private static void callsMakeNothing() {
    ThreadMXBean threads = (ThreadMXBean) ManagementFactory.getThreadMXBean();
    long self = Thread.currentThread().getId();
    callsOfARun(new GlossedBooks());
    long start = threads.getThreadAllocatedBytes(self);
    GlossedBooks x = new GlossedBooks();
    long made = threads.getThreadAllocatedBytes(self);
    callsOfARun(x);
    long used = threads.getThreadAllocatedBytes(self);
    must(made - start < 200_000, "a new object takes little room, not " + (made - start));
    // The test's own text and what the machine measures with are in it.
    must(used - made < 10_000, "calls make no objects, not " + (used - made));
  }

  public static void main(String[] args) throws IOException {
    faceIsTheDocuments();
    sourceKeepsToTheLanguage();
    callsMakeNothing();
    System.out.println(checks + " rules looked at, " + wrong + " broken");
    if (wrong != 0) {
      System.exit(1);
    }
  }
}
