import java.io.IOException;
import java.nio.file.Files;
import java.nio.file.Path;
import java.util.ArrayList;
import java.util.LinkedHashSet;
import java.util.List;

/**
 * The document sentence by sentence: each test stands under the words that it holds the class to, with
 * the boundaries that they name. At the end the words are looked up in the document, and no words of
 * its terms and promises may be without a test.
 */
public final class GlossedBooksSentences {
  private static final int NONE = -1, UNKNOWN = -1001, OUTSIDE = -1002, NOT = -1003, FULL = -1004;
  private static final int MIN = Integer.MIN_VALUE, MAX = Integer.MAX_VALUE;
  private static final Path DOCUMENT = Path.of("../shared/DOC.md");

  private static final List<String> SENTENCES = new ArrayList<>();
  private static int wrong = 0;
  private static int checks = 0;
  private static int checksBefore = 0;

  /** A call on an object, to be made on more than one. */
  private interface Call {
    long on(GlossedBooks x);
  }

  private interface Made {
    GlossedBooks now();
  }

  // ---- helpers

  private static void sentence(String words) {
    mustHaveTested();
    SENTENCES.add(words);
    checksBefore = checks;
  }

  private static void mustHaveTested() {
    if (!SENTENCES.isEmpty() && checks == checksBefore) {
      say("is not tested");
    }
  }

  private static void say(String what) {
    wrong++;
    System.out.println("'" + SENTENCES.get(SENTENCES.size() - 1) + "': " + what);
  }

  private static void due(String what, long got, long want) {
    checks++;
    if (got != want) {
      say(what + " answered " + got + ", due is " + want);
    }
  }

  private static void due(String what, String got, String want) {
    checks++;
    if (!got.equals(want)) {
      say(what + " answered '" + got + "', due is '" + want + "'");
    }
  }

  private static void tell(GlossedBooks x, String text) {
    for (int at = 0; at < text.length(); at += 8) {
      int n = Math.min(8, text.length() - at);
      x.feed(n, bytes(text.substring(at, at + n)));
    }
  }

  private static long bytes(String text) {
    long bytes = 0;
    for (char c : text.toCharArray()) {
      bytes = bytes << 8 | c;
    }
    return bytes;
  }

  private static int book(GlossedBooks x, String text) {
    tell(x, text);
    return x.book();
  }

  private static int hand(GlossedBooks x, int h, String text) {
    tell(x, text);
    return x.hand(h);
  }

  /** A new object with these books. */
  private static GlossedBooks library(String... texts) {
    GlossedBooks x = new GlossedBooks();
    for (int b = 0; b < texts.length; b++) {
      due("book " + texts[b], book(x, texts[b]), b);
    }
    return x;
  }

  private static String printed(GlossedBooks x, int b) {
    StringBuilder text = new StringBuilder();
    int n = x.print(b, NONE);
    for (int i = 0; i < n; i++) {
      text.append((char) x.print(b, i));
    }
    return text.toString();
  }

  /** A book as it is printed when it has been told. */
  private static String retold(String text) {
    return printed(library(text), 0);
  }

  private static String words(int n, String word) {
    return (word + " ").repeat(n).trim();
  }

  /** What a hand with these habits makes of a book, with taken/chances of each habit that had one. */
  private static String copied(String text, String habits) {
    GlossedBooks x = library(text);
    due("hand " + habits, hand(x, 0, habits) > 0 ? 1 : 0, 1);
    due("copy", x.copy(0, 0), 1);
    StringBuilder counts = new StringBuilder();
    for (int habit = 0; habit < 6; habit++) {
      if (x.taken(1, habit, true) != 0) {
        counts.append(' ').append("fstidm".charAt(habit)).append(x.taken(1, habit, false));
        counts.append('/').append(x.taken(1, habit, true));
      }
    }
    return printed(x, 1) + counts;
  }

  /** The fault of a book as number and byte, "none" if it has none. */
  private static String bookFault(String text) {
    GlossedBooks x = new GlossedBooks();
    return faultTold(book(x, text), x);
  }

  private static String handFault(String text) {
    GlossedBooks x = new GlossedBooks();
    return faultTold(hand(x, 0, text), x);
  }

  private static String faultTold(int answer, GlossedBooks x) {
    return answer >= 0 && x.fault() == NONE ? "none" : -10 - answer + " at " + x.fault();
  }

  private static String besides(GlossedBooks x, int a, int b) {
    StringBuilder text = new StringBuilder();
    for (int i = 0; i < x.about(a, 0); i++) {
      int place = x.beside(a, b, i);
      text.append(place == NONE ? "-" : "" + place).append(' ');
    }
    return text.toString() + "cost " + x.distance(a, b);
  }

  private static String besides(String a, String b) {
    return besides(library(a, b), 0, 1);
  }

  /** Three books, of which the second is a copy and the third has no words, a fault, bytes told. */
  private static GlossedBooks some() {
    GlossedBooks x = new GlossedBooks();
    book(x, "1[2|a3[4|b5]]6");
    hand(x, 0, "for 1 7 1;skip 2 3;");
    x.copy(0, 0);
    book(x, "");
    book(x, "1 64");
    tell(x, "9 8");
    return x;
  }

  private static GlossedBooks withTenBooks() {
    GlossedBooks x = some();
    for (int b = 3; b < 10; b++) {
      x.copy(2, 1);
    }
    return x;
  }

  private static GlossedBooks withBytes(int n) {
    GlossedBooks x = some();
    tell(x, "7" + " ".repeat(n - 4));
    return x;
  }

  /** All that can be seen of an object; it is of no use behind that. */
  private static String state(GlossedBooks x) {
    StringBuilder text = new StringBuilder();
    text.append(x.count(0)).append(' ').append(x.count(1)).append(' ').append(x.count(2));
    text.append(" fault ").append(x.fault());
    for (int h = 0; h < 4; h++) {
      for (int what = 0; what < 8; what++) {
        text.append(' ').append(x.habit(h, what));
      }
    }
    for (int b = 0; b < x.count(0); b++) {
      text.append(" book ").append(printed(x, b)).append(" of ").append(x.about(b, 3));
      text.append(" by ").append(x.about(b, 4));
      for (int habit = 0; habit < 6; habit++) {
        text.append(' ').append(x.taken(b, habit, true)).append('/').append(x.taken(b, habit, false));
      }
    }
    int next = x.book();
    text.append(" told ").append(next).append(' ').append(printed(x, next));
    int copy = x.copy(0, 0);
    return text.append(" copy ").append(copy).append(' ').append(printed(x, copy)).toString();
  }

  private static void refused(String what, long answer, Made made, Call call) {
    GlossedBooks x = made.now();
    due(what, call.on(x), answer);
    due("what there is behind " + what, state(x), state(made.now()));
  }

  /** The call is refused with each number that is none of 0 to last. */
  private interface CallWith {
    long on(GlossedBooks x, int number);
  }

  private static void refusedBut(String what, int last, long answer, CallWith call) {
    int[] numbers = {MIN, MIN + 1, -65, -64, -2, -1, last + 1, last + 2, last + 32, last + 64, last + 256, MAX};
    for (int number : numbers) {
      due(what + " of " + number, call.on(some(), number), answer);
    }
    due(what + " of 0 is not refused", call.on(some(), 0) <= UNKNOWN ? 1 : 0, 0);
    due(what + " of the last is not refused", call.on(some(), last) <= UNKNOWN ? 1 : 0, 0);
  }

  // ---- Terms

  private static void numbersFromNought() {
    sentence("Words in capitals are told where they come first. All numbers are whole; / cuts towards 0."
        + " What has a number has it from 0 on, as it comes.");
    GlossedBooks x = new GlossedBooks();
    due("the first book", book(x, "1"), 0);
    due("a faulty one", book(x, "64"), -12);
    due("the next has the next number", x.copy(0, 0), 1);
    due("a refused one", x.copy(2, 0), UNKNOWN);
    due("the next has the next number", book(x, "[1|a2][3|b4]"), 2);
    due("gloss 0", x.gloss(2, 0, 7), 2);
    due("gloss 1", x.gloss(2, 1, 7), 4);
    due("word 0", x.word(2, 0), 1);
    due("word 1", x.word(2, 1), 3);
    due("byte 0", x.print(2, 0), '[');
    due("hand 0", hand(x, 0, "turn 1;"), 1);
  }

  private static void sets() {
    sentence("A SET is a whole number, bit k for k (of WORDS a long).");
    GlossedBooks x = library("1", "1", "1", "1", "1", "1", "1", "1", "2", "2");
    due("books 8 and 9", x.group(0, 1023, 0), 256 + 512);
    due("book 9 alone", x.parent(9, 512, 9), NONE);
    due("books 0 and 9", x.parent(0, 513, 9), 0);
    x = library("[0|a0|a31|a32|a62|a63][31|a31][32|a32][63|a63]");
    due("words", x.explained(0, 0), 1L | 1L << 31 | 1L << 32 | 1L << 62 | 1L << 63);
    due("round", x.round(0), 1L | 1L << 31 | 1L << 32 | 1L << 63);
    x = library("[1" + "|a9".repeat(19) + "]2[3|a4]", "1 2 4 3", "[1" + "|a9".repeat(20) + "]", "9 1");
    due("gloss 19", x.slipped(0, 1), 1 << 19);
    due("all 20 glosses", x.slipped(2, 3), (1 << 20) - 1);
  }

  private static void none() {
    sentence("NONE is -1.");
    due("NONE", GlossedBooks.NONE, -1);
  }

  private static void orderOfRefusals() {
    sentence("REFUSALS, of several the first in this order: UNKNOWN (a BOOK, GLOSS, HAND that there is not),"
        + " OUTSIDE (another number out of its bounds), NOT (not now, as told), FULL.");
    due("UNKNOWN", GlossedBooks.UNKNOWN, -1001);
    due("OUTSIDE", GlossedBooks.OUTSIDE, -1002);
    due("NOT", GlossedBooks.NOT, -1003);
    due("FULL", GlossedBooks.FULL, -1004);
    due("feed: OUTSIDE, FULL", withBytes(320).feed(9, 0), OUTSIDE);
    due("feed: OUTSIDE, FULL", withBytes(320).feed(0, 0), OUTSIDE);
    due("hand: UNKNOWN, OUTSIDE", withBytes(161).hand(4), UNKNOWN);
    due("habit: UNKNOWN, OUTSIDE", some().habit(4, 8), UNKNOWN);
    due("copy: UNKNOWN, FULL", withTenBooks().copy(10, 0), UNKNOWN);
    due("copy: UNKNOWN, FULL", withTenBooks().copy(0, 4), UNKNOWN);
    due("taken: UNKNOWN, OUTSIDE", some().taken(3, 6, true), UNKNOWN);
    due("taken: OUTSIDE, NOT", some().taken(0, 6, true), OUTSIDE);
    due("amend: UNKNOWN, OUTSIDE", some().amend(3, -1, 64), UNKNOWN);
    due("about: UNKNOWN, OUTSIDE", some().about(3, 8), UNKNOWN);
    due("gloss: UNKNOWN, OUTSIDE", some().gloss(3, 0, 15), UNKNOWN);
    due("gloss: UNKNOWN, OUTSIDE", some().gloss(0, 2, 15), UNKNOWN);
    due("beside: UNKNOWN, OUTSIDE", some().beside(3, 0, -1), UNKNOWN);
    due("beside: UNKNOWN, OUTSIDE", some().beside(0, 3, 3), UNKNOWN);
    due("reading: UNKNOWN, OUTSIDE", some().reading(3, 0, -1), UNKNOWN);
    due("reading: UNKNOWN, OUTSIDE", some().reading(0, 3, 3), UNKNOWN);
    due("most: UNKNOWN, OUTSIDE", some().most(3, 0, -1, 2), UNKNOWN);
    due("most: UNKNOWN, OUTSIDE", some().most(0, 8, 3, -1), UNKNOWN);
    due("tree: UNKNOWN, OUTSIDE", some().tree(3, 7, 2), UNKNOWN);
    due("tree: UNKNOWN, OUTSIDE", some().tree(0, 15, 2), UNKNOWN);
    due("tree: UNKNOWN, OUTSIDE", some().tree(0, 6, -1), UNKNOWN);
    due("explained: UNKNOWN, OUTSIDE", some().explained(3, 64), UNKNOWN);
    due("steps: UNKNOWN, OUTSIDE", some().steps(3, -1, 64), UNKNOWN);
  }

  private static void refusedChangesNothing() {
    sentence("What is refused changes nothing.");
    refused("feed(0)", OUTSIDE, () -> some(), x -> x.feed(0, 0x31));
    refused("feed(9)", OUTSIDE, () -> some(), x -> x.feed(9, 0x31));
    refused("feed beyond", FULL, () -> withBytes(320), x -> x.feed(1, 0x31));
    refused("feed beyond", FULL, () -> withBytes(315), x -> x.feed(8, 0x3132333435363738L));
    refused("book", FULL, () -> withTenBooks(), x -> x.book());
    refused("hand", UNKNOWN, () -> some(), x -> x.hand(4));
    refused("hand", OUTSIDE, () -> withBytes(161), x -> x.hand(0));
    refused("habit", UNKNOWN, () -> some(), x -> x.habit(-1, 0));
    refused("habit", OUTSIDE, () -> some(), x -> x.habit(0, 8));
    refused("copy", UNKNOWN, () -> some(), x -> x.copy(3, 0));
    refused("copy", UNKNOWN, () -> some(), x -> x.copy(0, 4));
    refused("copy", FULL, () -> withTenBooks(), x -> x.copy(0, 0));
    refused("taken", NOT, () -> some(), x -> x.taken(0, 0, true));
    refused("amend", UNKNOWN, () -> some(), x -> x.amend(3, 0, 5));
    refused("amend", OUTSIDE, () -> some(), x -> x.amend(0, 3, 5));
    refused("amend", OUTSIDE, () -> some(), x -> x.amend(0, 0, 64));
    refused("amend", OUTSIDE, () -> some(), x -> x.amend(0, 0, -1));
    refused("lift", UNKNOWN, () -> some(), x -> x.lift(0, 2));
    refused("lift", UNKNOWN, () -> some(), x -> x.lift(3, 0));
    refused("most", OUTSIDE, () -> some(), x -> x.most(0, 7, 3, 0));
    refused("tree", UNKNOWN, () -> some(), x -> x.tree(0, 6, 0));
  }

  private static void wordsAreNoughtTo63() {
    sentence("WORDS are 0 to 63.");
    due("told", retold("0 63"), "0 63");
    due("too large", bookFault("64"), "2 at 0");
    due("too large", bookFault("99"), "2 at 0");
    due("too large, in a row", bookFault("[1|a64]"), "2 at 4");
    due("too large, in a lemma", bookFault("[64|a1]"), "2 at 1");
    due("below 0 cannot be told", bookFault("-1"), "1 at 0");
    GlossedBooks x = some();
    due("amend to 63", x.amend(0, 0, 63), 1);
    due("amend to 0", x.amend(0, 0, 0), 63);
    due("amend to 64", x.amend(0, 0, 64), OUTSIDE);
    due("amend to -1", x.amend(0, 0, -1), OUTSIDE);
    due("it is", x.word(0, 0), 0);
  }

  private static void sizesOfBooks() {
    sentence("A BOOK (10 at most) has a TEXT, a row of up to 40 WORDS, and GLOSSES (20 at most).");
    GlossedBooks x = library("1", "2", "3", "4", "5", "6", "7", "8", "9", "10");
    due("the eleventh told", book(x, "11"), FULL);
    due("the eleventh copied", x.copy(0, 0), FULL);
    due("books", x.count(0), 10);
    due("the tenth", printed(x, 9), "10");
    x = library("1");
    for (int b = 1; b < 10; b++) {
      due("copy", x.copy(b - 1, 0), b);
    }
    due("the eleventh copied", x.copy(9, 0), FULL);
    due("the eleventh told", book(x, "1"), FULL);
    due("a text of 40", library(words(40, "7")).about(0, 0), 40);
    due("a text of none", library("").about(0, 0), 0);
    due("a text of 41", bookFault(words(41, "7")), "3 at 80");
    due("20 glosses", library("[1" + "|a2".repeat(20) + "]").about(0, 1), 20);
    due("21 glosses", bookFault("[1" + "|a2".repeat(21) + "]"), "4 at 62");
    due("20 glosses on 20 spans", library("[1|b2]".repeat(20)).about(0, 5), 20);
    due("a 21st", bookFault("[1|b2]".repeat(21)), "4 at 122");
    due("no gloss", library("1").about(0, 1), 0);
  }

  private static void spans() {
    sentence("In the TEXT, and in the ROW of a GLOSS, there are SPANS: one or more WORDS side by side,"
        + " no WORD in two of them; each has one or more GLOSSES, in order.");
    GlossedBooks x = library("[" + words(40, "7") + "|a1]", "[1|a2][1|a2]", "1[2|b[3|a4]5[6|b7]]");
    due("a span of 40 words", x.gloss(0, 0, 2) + 100 * x.gloss(0, 0, 3), 3900);
    due("two spans side by side", x.about(1, 5), 2);
    due("a span of one word", x.gloss(1, 1, 2) + 100 * x.gloss(1, 1, 3), 101);
    due("spans of text and row", x.about(2, 5), 3);
    due("the one on the row's end", x.gloss(2, 2, 2) + 100 * x.gloss(2, 2, 3), 202);
    due("a span of no word", bookFault("[|a1]"), "1 at 1");
    due("a span without glosses", bookFault("[1]"), "1 at 2");
    due("a word in two spans", bookFault("[1[2|a3]|a4]"), "1 at 2");
    x = library("[1" + "|a2".repeat(20) + "]");
    for (int g = 0; g < 20; g++) {
      due("which of its span's", x.gloss(0, g, 6), g);
    }
    due("one span", x.about(0, 5), 1);
  }

  private static void kinds() {
    sentence("A GLOSS is ABOVE (KIND 0; its ROW has 1 to 4 WORDS) or BESIDE (1; 1 to 8).");
    GlossedBooks x = library("[1|a1|a1 2 3 4|b1|b1 2 3 4 5 6 7 8]");
    int[] kinds = {0, 0, 1, 1};
    int[] lengths = {1, 4, 1, 8};
    for (int g = 0; g < 4; g++) {
      due("kind", x.gloss(0, g, 0), kinds[g]);
      due("words", x.gloss(0, g, 4), lengths[g]);
    }
    due("above, none", bookFault("[1|a]"), "1 at 4");
    due("above, five", bookFault("[1|a1 2 3 4 5]"), "3 at 12");
    due("beside, none", bookFault("[1|b]"), "1 at 4");
    due("beside, nine", bookFault("[1|b1 2 3 4 5 6 7 8 9]"), "3 at 20");
    due("above, four in spans", bookFault("[1|a[1 2|a3][3 4|a5]]"), "none");
    due("above, five with spans", bookFault("[1|a[1 2|a3][3 4|a5]6]"), "3 at 20");
    due("beside, eight in spans", bookFault("[1|b[1 2 3 4 5 6 7 8|a3]]"), "none");
    due("beside, nine in a span", bookFault("[1|b[1 2 3 4 5 6 7 8 9|a3]]"), "3 at 21");
  }

  private static void hosts() {
    sentence("Its HOST is the GLOSS in whose ROW its SPAN is (of the TEXT: NONE); its LEMMA are the WORDS of its"
        + " SPAN.");
    GlossedBooks x = library("[1|a2[3 4|b5[6|a7]]|b8][9|b0]");
    int[] hosts = {NONE, 0, 1, NONE, NONE};
    int[] firsts = {0, 1, 1, 0, 1};
    int[] lasts = {0, 2, 1, 0, 1};
    for (int g = 0; g < 5; g++) {
      due("host", x.gloss(0, g, 1), hosts[g]);
      due("first", x.gloss(0, g, 2), firsts[g]);
      due("last", x.gloss(0, g, 3), lasts[g]);
    }
  }

  private static void depths() {
    sentence("DEPTH of a GLOSS on the TEXT is 1, else one more than that of its HOST.");
    GlossedBooks x = library("[1|a2[3|b4[5|a6[7|b8|b9]]|b0]][1|b2]");
    int[] depths = {1, 2, 3, 4, 4, 2, 1};
    for (int g = 0; g < depths.length; g++) {
      due("depth", x.gloss(0, g, 5), depths[g]);
    }
    due("a depth of five", bookFault("[1|a[2|a[3|a[4|a[5|a6]]]]]"), "5 at 18");
  }

  private static void textsOf320() {
    sentence("TOLD in a text (320 bytes at most):");
    String text = "[10|b10 11 12 13 14 15 16 17]".repeat(10) + "1[20|b20 21 22 23 24 25 26 27]";
    due("bytes", text.length(), 320);
    due("told and printed", retold(text), text);
    GlossedBooks x = new GlossedBooks();
    tell(x, text);
    due("one more", x.feed(1, ' '), FULL);
    due("it is told all the same", x.book(), 0);
    due("a fault in the last byte", bookFault(text.substring(0, 319) + "x"), "1 at 319");
    due("a fault at the end", bookFault(text.substring(0, 319) + " "), "1 at 320");
  }

  /** Each byte behind what was told: does it stand there? */
  private static void standing(String told, String allowed) {
    for (int c = 0; c < 256; c++) {
      GlossedBooks x = new GlossedBooks();
      int answer = book(x, told + (char) c);
      boolean stands = allowed.indexOf(c) >= 0;
      boolean faulty = answer == -11 && x.fault() == told.length();
      due("byte " + c + " behind '" + told + "' stands", faulty ? 0 : 1, stands ? 1 : 0);
      if (stands && answer < 0) {
        due("byte " + c + " behind '" + told + "', then the end", x.fault(), told.length() + 1);
      }
    }
  }

  private static void grammarOfBooks() {
    sentence("{item}; item = W | '[' W {W} bar {bar} ']' ; bar = '|' ('a' | 'b') item {item}. In '[' first the"
        + " LEMMA, then its GLOSSES: behind the letter (a: ABOVE, b: BESIDE) the ROW, with SPANS of its own.");
    String figures = " 0123456789";
    standing("", figures + "[");
    standing("1 ", figures + "[");
    standing("[", figures);
    standing("[1 ", figures + "|");
    standing("[1|", " ab");
    standing("[1|a", figures + "[");
    standing("[1|b", figures + "[");
    standing("[1|a1 ", figures + "[|]");
    standing("[1|a1]", figures + "[");
    standing("[1|a[", figures);
    standing("[1|a[1 ", figures + "|");
    standing("[1|a[1|b", figures + "[");
    standing("[1|a[1|b1 ", figures + "[|]");
    standing("[1|a[1|b1]", figures + "[|]");
    standing("[1|a[1|b1]]", figures + "[");
    due("all of it", retold("1[2 3|a4[5|b6]7|b[8|a9]]0"), "1[2 3|a4[5|b6]7|b[8|a9]]0");
  }

  private static void numbersOfGlosses() {
    sentence("GLOSSES have numbers as their '|' come.");
    GlossedBooks x = library("[1|a10[2|b11[3|a12]|b13]|b14][4|a15]");
    for (int g = 0; g < 6; g++) {
      due("gloss", x.gloss(0, g, 7), 10 + g);
    }
  }

  private static void numbersAndBlanks() {
    sentence("NUMBERS have one or two figures; blanks (32) may stand anywhere but within NUMBERS; two NUMBERS"
        + " side by side need one.");
    due("one figure, two figures", retold("0 00 07 7 10 63"), "0 0 7 7 10 63");
    due("a blank within makes two", retold("6 3"), "6 3");
    due("without one it is one", retold("63"), "63");
    due("no blank beside signs", retold("1[2|b3]4"), "1[2|b3]4");
    due("blanks anywhere", retold("   1  [  2   3  |  b  4  |  a  5  ]  6  "), "1[2 3|b4|a5]6");
    due("blanks within three figures", retold("1 23"), "1 23");
    due("a tabulator is none", bookFault("1" + (char) 9 + "2"), "1 at 1");
    due("an end of line is none", bookFault("1" + (char) 10), "1 at 1");
    due("byte 160 is none", bookFault((char) 160 + "1"), "1 at 0");
  }

  private static void firstFault() {
    sentence("FAULTS, at the first byte that has one (the end at the text's length), of these the least:");
    due("the first of two", bookFault("64 x"), "2 at 0");
    due("the first of two", bookFault("x 64"), "1 at 0");
    due("the end", bookFault("["), "1 at 1");
    due("the end behind blanks", bookFault("[1   "), "1 at 5");
    due("the end behind a letter", bookFault("[1|a"), "1 at 4");
    due("1 and 2", bookFault("[1|64]"), "1 at 3");
    due("1 and 2", bookFault("[1|100]"), "1 at 3");
    due("1 and 4", bookFault("[1" + "|a2".repeat(20) + "]|"), "1 at 63");
    due("1 and 5", bookFault("[1|a[2|a[3|a[4|a[|a6]]]]]"), "1 at 17");
    due("2 and 3", bookFault(words(40, "1") + " 64"), "2 at 80");
    due("2 and 3", bookFault("[1|a1 2 3 4 64]"), "2 at 12");
    due("2 and 3", bookFault("[1|b1 2 3 4 5 6 7 8 100]"), "2 at 20");
    String sixteen = "[1" + "|a2".repeat(16) + "]";
    due("4 and 5", bookFault(sixteen + "[1|a[2|a[3|a[4|a[5|a6]]]]]"), "4 at " + (sixteen.length() + 18));
    due("5 ahead of a 21st", bookFault("[1|a[2|a[3|a[4|a[5" + "|a2".repeat(21)), "5 at 18");
    due("a fault leaves none behind", bookFault(""), "none");
  }

  private static void faultOne() {
    sentence("1 it cannot stand there.");
    due("]", bookFault("1 ]"), "1 at 2");
    due("] too many", bookFault("[1|a2]]"), "1 at 6");
    due("| outside", bookFault("1|a2"), "1 at 1");
    due("a letter outside", bookFault("a"), "1 at 0");
    due("two letters", bookFault("[1|ab2]"), "1 at 4");
    due("another letter", bookFault("[1|c2]"), "1 at 3");
    due("a capital letter", bookFault("[1|A2]"), "1 at 3");
    due("byte 0", bookFault("1" + (char) 0), "1 at 1");
    due("byte 255", bookFault("" + (char) 255), "1 at 0");
    due("] ahead of a gloss", bookFault("[1|a2|]"), "1 at 6");
    due("] never told", bookFault("[1|a[2|b3]"), "1 at 10");
  }

  private static void faultTwo() {
    sentence("2 a NUMBER of three figures or more, or out of its bounds (at its first).");
    due("63", bookFault("63"), "none");
    due("64", bookFault("1 64"), "2 at 2");
    due("99", bookFault("1 99"), "2 at 2");
    due("three figures", bookFault("1  000"), "2 at 3");
    due("three figures", bookFault("063"), "2 at 0");
    due("300 figures", bookFault("0".repeat(300)), "2 at 0");
    due("2 to the 32nd and 1", bookFault("4294967297"), "2 at 0");
    due("2 to the 64th", bookFault("18446744073709551616"), "2 at 0");
    due("three figures that end the text", bookFault("[1|b100"), "2 at 4");
    due("it is ahead of what is behind its first", bookFault("100x"), "2 at 0");
  }

  private static void faultThree() {
    sentence("3 a WORD too many: the 41st of the TEXT, the fifth of a ROW ABOVE, the ninth of one BESIDE"
        + " (at its first).");
    due("40", bookFault(words(40, "11")), "none");
    due("41", bookFault(words(41, "11")), "3 at 120");
    due("41 in a span", bookFault(words(40, "1") + "[2|a3]"), "3 at 80");
    due("41 in a lemma", bookFault(words(39, "1") + "[2 3|a3]"), "3 at 80");
    due("rows are no words of the text", bookFault(words(39, "1") + "[2|a3 4]"), "none");
    due("four", bookFault("[1|a11 12 13 14]"), "none");
    due("five", bookFault("[1|a11 12 13 14 15]"), "3 at 16");
    due("eight", bookFault("[1|b11 12 13 14 15 16 17 18]"), "none");
    due("nine", bookFault("[1|b11 12 13 14 15 16 17 18 19]"), "3 at 28");
    due("each row anew", bookFault("[1|a1 2 3 4|a1 2 3 4|b1 2 3 4 5]"), "none");
    due("behind a row on it", bookFault("[1|a1 2 3[4|b1 2 3 4 5]6]"), "3 at 23");
  }

  private static void faultFour() {
    sentence("4 a 21st GLOSS (at its '|').");
    due("20", bookFault("[1|a2]".repeat(20)), "none");
    due("21", bookFault("[1|a2]".repeat(21)), "4 at 122");
    due("21 on one span", bookFault("[1" + "|b2".repeat(20) + "   |"), "4 at 65");
    due("21 on a row", bookFault("[1" + "|b2".repeat(19) + "|b[2|a3|a4]]"), "4 at 63");
  }

  private static void faultFive() {
    sentence("5 a GLOSS of a DEPTH of 5 (at its '|').");
    due("4", bookFault("[1|a[2|a[3|a[4|a5]]]]"), "none");
    due("5", bookFault("[1|a[2|a[3|a[4|a[5|a6]]]]]"), "5 at 18");
    due("its lemma stands", bookFault("[1|a[2|a[3|a[4|a[5 6 "), "1 at 21");
    due("more of a depth of 4", bookFault("[1|a[2|a[3|a[4|a5|b6|a7]]]]"), "none");
    due("5 behind one of 4", bookFault("[1|b[2|b[3|b[4|b5|b[6|b7]]]]]"), "5 at 21");
  }

  private static void textOfNone() {
    sentence("(A text of none is a BOOK without WORDS.)");
    GlossedBooks x = new GlossedBooks();
    due("book", x.book(), 0);
    due("fault", x.fault(), NONE);
    due("words", x.about(0, 0), 0);
    due("word 0", x.word(0, 0), NONE);
    due("print", x.print(0, NONE), 0);
    due("blanks alone", book(x, " ".repeat(320)), 1);
    due("words", x.about(1, 0), 0);
    due("its copy", x.copy(0, 0), 2);
    due("words", x.about(2, 0), 0);
  }

  private static void asPrinted() {
    sentence("PRINTED is a BOOK as it would be told: NUMBERS without needless figures, one blank between two"
        + " NUMBERS side by side, none else.");
    due("figures", retold("00 01 09 10 63"), "0 1 9 10 63");
    due("between a number and a span", retold("1 [2|a3] 4 [5|b6]"), "1[2|a3]4[5|b6]");
    due("in a lemma and a row", retold("[1 2|a3 4]"), "[1 2|a3 4]");
    due("between spans", retold("[1|a2] [3|a4]"), "[1|a2][3|a4]");
    due("nothing", retold("  "), "");
    due("a depth of 4", retold("[1|a2[3|b4[5|a6[7|b8]9]]0]"), "[1|a2[3|b4[5|a6[7|b8]9]]0]");
    String text = "[1" + "|b1 1 1 1 1".repeat(20) + "]" + words(39, "1");
    GlossedBooks x = library(text);
    hand(x, 0, "for 1 10 1;");
    x.copy(0, 0);
    due("longer than could be told", printed(x, 1), text.replace("1", "10"));
    due("its length", x.print(1, NONE), 4 + 20 * 16 + 39 * 3 - 1);
  }

  private static void sizesOfHands() {
    sentence("A HAND (4 at most) has HABITS, told in a text (160 bytes at most):");
    GlossedBooks x = some();
    x.book();
    for (int h = 0; h < 4; h++) {
      due("hand", hand(x, h, "turn " + (h + 1) + ";"), 1);
    }
    due("a fifth", x.hand(4), UNKNOWN);
    due("one below", x.hand(-1), UNKNOWN);
    for (int h = 0; h < 4; h++) {
      due("each has its own", x.habit(h, 2), h + 1);
    }
    due("160 bytes", hand(x, 0, " ".repeat(152) + "turn 99;"), 1);
    due("M", x.habit(0, 2), 99);
    due("161 bytes", hand(x, 0, "turn 98;" + " ".repeat(153)), OUTSIDE);
    due("M", x.habit(0, 2), 99);
    due("a fault at the 160th byte", handFault(" ".repeat(159) + "x"), "1 at 159");
    due("a fault at the end of 160", handFault(" ".repeat(153) + "turn 12"), "1 at 160");
  }

  /**
   * Each byte behind what was told to a hand: if it stands, the fault is at the end behind it; of a
   * letter the fault is where its word begins. Others are told as pairs of byte and fault.
   */
  private static void standingInHand(String told, String allowed, int wordAt, String... others) {
    for (int c = 0; c < 256; c++) {
      String want = "1 at " + (allowed.indexOf(c) >= 0 ? told.length() + 1 : told.length());
      if (c >= 'a' && c <= 'z') {
        want = "1 at " + wordAt;
      }
      for (int k = 0; k + 1 < others.length; k += 2) {
        want = others[k].charAt(0) == c ? others[k + 1] : want;
      }
      due("byte " + c + " behind '" + told + "'", handFault(told + (char) c), want);
    }
  }

  private static void grammarOfHands() {
    sentence("clauses: 'for' A B M ';' 'skip' D M ';' 'turn' M ';' 'into' ('ahead' | 'behind' | 'instead') M ';'"
        + " 'drop' M ';' 'move' M ';' ;");
    String figures = " 0123456789";
    standingInHand("", "", 0, " ", "none");
    standingInHand("turn", figures, 0, "0", "2 at 4");
    standingInHand("turn ", figures, 5, "0", "2 at 5");
    standingInHand("turn 1", figures, 6, ";", "none");
    standingInHand("turn 1;", "", 7, " ", "none");
    standingInHand("skip", figures, 0, "0", "2 at 4");
    standingInHand("skip 1", figures, 6, "0", "1 at 7");
    standingInHand("skip 1 ", figures, 7, "0", "2 at 7");
    standingInHand("skip 1 1 ", " ", 9, ";", "none");
    standingInHand("for", figures, 0);
    standingInHand("for 1", figures, 5);
    standingInHand("for 1 2", figures, 7);
    standingInHand("for 1 2 ", figures, 8, "0", "2 at 8");
    standingInHand("for 1 2 3", figures, 9, ";", "none");
    standingInHand("into", " ", 0);
    standingInHand("into ", " ", 5);
    standingInHand("into ahead", figures, 5, "0", "2 at 10");
    standingInHand("into behind 1", figures, 13, ";", "none");
    standingInHand("into instead", figures, 5, "0", "2 at 12");
    standingInHand("drop ", figures, 5, "0", "2 at 5");
    standingInHand("drop 1", figures, 6, ";", "none");
    standingInHand("move ", figures, 5, "0", "2 at 5");
    standingInHand("move 1 ", " ", 7, ";", "none");
    GlossedBooks x = new GlossedBooks();
    due("all of it", hand(x, 0, "for 1 2 3;skip 4 5;turn 6;into behind 7;drop 8;move 9;"), 6);
    int[] habits = {1, 5, 6, 7, 8, 9, 4, 1};
    for (int what = 0; what < 8; what++) {
      due("habit " + what, x.habit(0, what), habits[what]);
    }
  }

  private static void eachClauseOnce() {
    sentence("each at most once, but 'for' up to four times.");
    String[] clauses = {"skip 1 1;", "turn 1;", "into ahead 1;", "drop 1;", "move 1;"};
    for (String clause : clauses) {
      due(clause, handFault(clause), "none");
      due(clause + " twice", handFault(clause + clause), "3 at " + clause.length());
      due(clause + " again behind others", handFault(clause + "for 1 2 3;" + clause), "3 at " + (clause.length() + 10));
    }
    due("another way of into", handFault("into ahead 1;into behind 1;"), "3 at 13");
    GlossedBooks x = new GlossedBooks();
    String four = "for 1 2 1;for 2 3 1;for 3 4 1;for 4 5 1;";
    due("four 'for'", hand(x, 0, four), 4);
    due("five", hand(x, 0, four + "for 5 6 1;"), -13);
    due("at", x.fault(), 40);
    due("nine clauses", hand(x, 0, four + String.join("", clauses)), 9);
    due("no clause", hand(x, 0, ""), 0);
  }

  private static void boundsOfHabits() {
    sentence("A, B WORDS, D 1 .. 20, M 1 .. 99:");
    due("A 0, B 63", handFault("for 0 63 1;"), "none");
    due("A 63, B 0", handFault("for 63 0 1;"), "none");
    due("A 64", handFault("for 64 0 1;"), "2 at 4");
    due("B 64", handFault("for 0 64 1;"), "2 at 6");
    due("D 1", handFault("skip 1 1;"), "none");
    due("D 20", handFault("skip 20 1;"), "none");
    due("D 0", handFault("skip 0 1;"), "2 at 5");
    due("D 00", handFault("skip 00 1;"), "2 at 5");
    due("D 21", handFault("skip 21 1;"), "2 at 5");
    String[] clauses = {"for 1 2 ", "skip 1 ", "turn ", "into ahead ", "into behind ", "into instead ", "drop ", "move "};
    for (String clause : clauses) {
      due(clause + "1", handFault(clause + "1;"), "none");
      due(clause + "99", handFault(clause + "99;"), "none");
      due(clause + "0", handFault(clause + "0;"), "2 at " + clause.length());
      due(clause + "00", handFault(clause + "00;"), "2 at " + clause.length());
      due(clause + "100", handFault(clause + "100;"), "2 at " + clause.length());
      due(clause + "001", handFault(clause + "001;"), "2 at " + clause.length());
    }
  }

  private static void eachChance() {
    sentence("each M-th chance is taken.");
    due("M 1", copied("1 1 1 1", "for 1 2 1;"), "2 2 2 2 f4/4");
    due("M 2", copied("1 1 1 1", "for 1 2 2;"), "1 2 1 2 f2/4");
    due("M 3", copied("1 1 1 1", "for 1 2 3;"), "1 1 2 1 f1/4");
    due("as many as there are", copied("1 1 1 1", "for 1 2 4;"), "1 1 1 2 f1/4");
    due("one more", copied("1 1 1 1", "for 1 2 5;"), "1 1 1 1 f0/4");
    String eights = "|b1 1 1 1 1 1 1 1";
    String text = "[1" + eights.repeat(13) + "]";
    due("M 99 of 105", copied(text, "for 1 2 99;"),
        "[1" + eights.repeat(12) + "|b1 2 1 1 1 1 1 1] f1/105");
    due("M 98 of 98", copied("1[1" + eights.repeat(12) + "]", "for 1 2 98;"),
        "1[1" + eights.repeat(11) + "|b1 1 1 1 1 1 1 2] f1/98");
    due("M 99 of 98", copied("1[1" + eights.repeat(12) + "]", "for 1 2 99;"), "1[1" + eights.repeat(12) + "] f0/98");
    due("M 99 of 99", copied("1 1[1" + eights.repeat(12) + "]", "for 1 2 99;"),
        "1 1[1" + eights.repeat(11) + "|b1 1 1 1 1 1 1 2] f1/99");
  }

  private static void lettersOfHands() {
    sentence("Words are letters a .. z side by side; blanks, NUMBERS as above; two words side by side need a blank.");
    due("no blank beside numbers", handFault("turn1;into ahead2;for 3 4 5;drop6 ;"), "none");
    due("blanks anywhere", handFault("   into   behind   07   ;   drop   1   ;  "), "none");
    due("a blank within a word", handFault("tu rn 1;"), "1 at 0");
    due("a blank within a number makes two", handFault("turn 1 2;"), "1 at 7");
    due("two words without one", handFault("intoahead 1;"), "1 at 0");
    due("letters behind a word", handFault("turns 1;"), "1 at 0");
    due("a capital letter", handFault("Turn 1;"), "1 at 0");
    due("a capital letter behind a word", handFault("turnS 1;"), "1 at 4");
    due("the byte ahead of a", handFault("turn`1;"), "1 at 4");
    due("the byte behind z", handFault("turn{1;"), "1 at 4");
    due("a tabulator", handFault("turn" + (char) 9 + "1;"), "1 at 4");
    due("two numbers without a blank", handFault("skip 11;"), "1 at 7");
    due("three figures", handFault("skip 111;"), "2 at 5");
  }

  private static void faultsOfHands() {
    sentence("FAULTS likewise: 1 (a word that cannot stand: at its first letter), 2, and 3: a clause that was told"
        + " already, a fifth 'for' (at its first letter), an A that has a 'for' already (at it), a B that is its A"
        + " (at it).");
    due("1, another word", handFault("turn 1; twist 2;"), "1 at 8");
    due("1, a word in another's place", handFault("ahead 1;"), "1 at 0");
    due("1, another first letter", handFault("burn 1;"), "1 at 0");
    due("1, another last letter", handFault("turk 1;"), "1 at 0");
    due("1, another first letter of a way", handFault("into bhead 1;"), "1 at 5");
    due("1, a clause in a way's place", handFault("into turn 1;"), "1 at 5");
    due("1, a word in a number's place", handFault("skip 1 turn 1;"), "1 at 7");
    due("1, a word in the sign's place", handFault("turn 1 turn 1;"), "1 at 7");
    due("1, the end", handFault("turn 1"), "1 at 6");
    due("1, the end behind blanks", handFault("turn 1  "), "1 at 8");
    due("1 and 2", handFault("turn 1 100;"), "1 at 7");
    due("1 and 3, a word begun like a clause told", handFault("turn 1;turns 1;"), "1 at 7");
    due("2", handFault("turn 1;drop 100;"), "2 at 12");
    due("2 and 3, A told and too large", handFault("for 1 2 3;for 64 2 3;"), "2 at 14");
    due("2 of three figures and 3", handFault("for 1 2 3;for 001 2 3;"), "2 at 14");
    due("2 and 3, B", handFault("for 1 001 3;"), "2 at 6");
    due("3, told already", handFault("  turn 1;  turn 2;"), "3 at 11");
    due("3, told already, the word alone", handFault("turn 1;turn"), "3 at 7");
    due("3, a fifth", handFault("for 1 2 1;for 2 3 1;for 3 4 1;for 4 5 1; for 5 6 1;"), "3 at 41");
    due("3, a fifth with an A told", handFault("for 1 2 1;for 2 3 1;for 3 4 1;for 4 5 1; for 1 6 1;"), "3 at 41");
    due("3, A", handFault("for 1 2 1;for 01 3 1;"), "3 at 14");
    due("3, A of the first of three", handFault("for 1 2 1;for 2 3 1;for 3 2 1;for 1 9 1;"), "3 at 34");
    due("3, A, with a B that is it", handFault("for 1 2 1;for 1 1 1;"), "3 at 14");
    due("3, B", handFault("for 1 1 1;"), "3 at 6");
    due("3, B in two figures", handFault("for 1 01 1;"), "3 at 6");
    due("a B told already", handFault("for 1 2 1;for 3 2 1;for 2 1 1;"), "none");
    due("a word with a fault is not told", handFault("turn 1;drop 1"), "1 at 13");
  }

  private static void orderOfHabits() {
    sentence("A COPY by a HAND is a new BOOK as the one copied (its EXEMPLAR), changed by its HABITS in this order,"
        + " each by what was made of it till then;");
    GlossedBooks x = library("1[2|a3]");
    due("by no habit", x.copy(0, 0), 1);
    due("it is as the one copied", printed(x, 1), "1[2|a3]");
    x.amend(1, 0, 9);
    x.lift(1, 0);
    due("the one copied is as it was", printed(x, 0), "1[2|a3]");
    x.amend(0, 0, 8);
    due("and the copy is its own", printed(x, 1), "9 2");
    due("for, skip", copied("1 2 3 4", "skip 5 1;for 3 1 1;"), "1 4 f1/1 s1/1");
    due("skip, turn", copied("1 2 1 3", "turn 1;skip 2 1;"), "3 1 s1/1 t1/1");
    due("turn, into", copied("1 2[3|a4]", "into ahead 1;turn 1;"), "2 1 4 3 t1/1 i1/1");
    due("into, drop", copied("[1|a2][3|b4]", "drop 1;into ahead 1;"), "2 1 3 i1/1 d1/1");
    due("drop, move", copied("[1|b2|b3]4", "move 1;drop 2;"), "1[4|b2] d1/2 m1/1");
    due("skip, into", copied("1 2[3 1|a4]5", "into ahead 1;skip 9 1;"), "1 5 s1/1");
    due("into, move", copied("[1|b2]3[4|a5]", "move 1;into ahead 1;"), "1[3|b2]5 4 i1/1 m1/1");
  }

  private static void chancesAnew() {
    sentence("chances of each HABIT (of each 'for') are counted from 1 in each COPY anew:");
    GlossedBooks x = library("1 1 1");
    hand(x, 0, "for 1 2 2;");
    for (int b = 1; b <= 3; b++) {
      x.copy(0, 0);
      due("each copy anew", printed(x, b), "1 2 1");
      due("chances", x.taken(b, 0, true), 3);
    }
    due("each 'for' on its own", copied("1 2 1 2 1 2", "for 1 7 2;for 2 8 3;"), "1 2 7 2 1 8 f2/6");
    due("each habit on its own", copied("1 1[3|a4]5 6", "skip 1 2;turn 2;drop 1;"), "1 1 3 5 6 s0/1 t0/1 d1/1");
  }

  private static void copiedFor() {
    sentence("for: each WORD that is A, of the TEXT, then of ROWS by GLOSSES, in order: it becomes B (all 'for' at"
        + " once, by what was ahead of all).");
    due("no word is A", copied("2[3|a4]", "for 1 2 1;"), "2[3|a4]");
    due("no words", copied("", "for 1 2 1;"), "");
    due("text, lemma, row, row on it", copied("1[1|a1[1|b1]1]1", "for 1 2 1;"), "2[2|a2[2|b2]2]2 f7/7");
    due("the text first", copied("[3|a1]1", "for 1 2 2;"), "[3|a2]1 f1/2");
    due("then row by row", copied("[1|a1[1|b1]1|b1]", "for 1 5 4;"), "[1|a1[1|b1]5|b1] f1/6");
    due("to and fro", copied("1 2 1", "for 1 2 1;for 2 1 1;"), "2 1 2 f3/3");
    due("in a chain", copied("1 2 3", "for 2 3 1;for 1 2 1;for 3 4 1;"), "2 3 4 f3/3");
    due("63 and 0", copied("0 63", "for 0 63 1;for 63 0 1;"), "63 0 f2/2");
    due("four 'for'", copied("1 2 3 4 4 3 2 1", "for 1 11 1;for 2 12 2;for 3 13 1;for 4 14 2;"),
        "11 2 13 4 14 13 12 11 f6/8");
    GlossedBooks x = library("1 1");
    hand(x, 0, "for 1 2 1;");
    hand(x, 1, "for 1 3 2;");
    x.copy(0, 0);
    x.copy(0, 1);
    due("each hand has its own", printed(x, 1) + ", " + printed(x, 2), "2 2, 1 3");
  }

  private static void copiedSkip() {
    sentence("skip: at a place i of the TEXT, from 0 on: if its WORD stands again at one of i + 1 to i + D, that is"
        + " a chance; taken: all behind i up to the first such place is left out, and i is looked at again; else i"
        + " goes on by one.");
    due("no words", copied("", "skip 20 1;"), "");
    due("one word", copied("1", "skip 20 1;"), "1");
    due("at i + 1", copied("1 1", "skip 1 1;"), "1 s1/1");
    due("at i + D", copied("1 2 3 1", "skip 3 1;"), "1 s1/1");
    due("behind i + D", copied("1 2 3 1", "skip 2 1;"), "1 2 3 1");
    due("at i + 20", copied("1" + between(19) + " 1", "skip 20 1;"), "1 s1/1");
    due("at i + 21", copied("1" + between(20) + " 1", "skip 20 1;"), "1" + between(20) + " 1");
    due("the first such place", copied("1 2 1 3 1", "skip 4 2;"), "1 2 1 s1/2");
    due("i is looked at again", copied("1 1 1 1", "skip 1 1;"), "1 s3/3");
    due("again, not taken", copied("1 1 1 1", "skip 1 2;"), "1 1 1 s1/3");
    due("what comes into reach", copied("1 2 1 3 1", "skip 2 1;"), "1 s2/2");
    due("40 like words", copied(words(40, "1"), "skip 1 1;"), "1 s39/39");
    due("40 like words, none taken", copied(words(40, "1"), "skip 1 40;"), words(40, "1") + " s0/39");
    due("rows are no text", copied("[1|a2 2]2", "skip 5 1;"), "[1|a2 2]2");
  }

  /** So many unlike words from 10 on, each with a blank ahead of it. */
  private static String between(int n) {
    StringBuilder text = new StringBuilder();
    for (int i = 0; i < n; i++) {
      text.append(' ').append(10 + i);
    }
    return text.toString();
  }

  private static void copiedSkipSpans() {
    sentence("A SPAN goes on with what is left of its LEMMA; with none it goes, with its GLOSSES.");
    due("its beginning is left out", copied("1[2 1 3|a9]4", "skip 5 1;"), "1[3|a9]4 s1/1");
    due("its end is left out", copied("[1 2|a9]3 1 4", "skip 5 1;"), "[1|a9]4 s1/1");
    due("its middle is left out", copied("[1 2 1 4|a9]", "skip 5 1;"), "[1 4|a9] s1/1");
    due("all but its first", copied("[1 2 1|a9]", "skip 5 1;"), "[1|a9] s1/1");
    due("two spans", copied("[5 1|a9]3[1 6|b8]", "skip 5 1;"), "[5 1|a9][6|b8] s1/1");
    due("none is left", copied("1[2|a9]1 4", "skip 5 1;"), "1 4 s1/1");
    due("none is left up to the like word", copied("1[2 1|a9]4", "skip 5 1;"), "1 4 s1/1");
    due("it goes with all on it", copied("1[2|a3[4|b5]|b6]1[7|a8]", "skip 5 1;"), "1[7|a8] s1/1");
    due("three spans go", copied("1[2|a3][4|a5][6|a7]1[8|b9]", "skip 5 1;drop 1;"), "1 8 s1/1 d1/1");
    due("spans behind go on", copied("1 2 1[3|a4[5|b6]]7[8|b9]", "skip 5 1;"), "1[3|a4[5|b6]]7[8|b9] s1/1");
    GlossedBooks x = library("1[2|a3[4|b5]|b6]1[7|a8[9|b0]]");
    hand(x, 0, "skip 5 1;");
    x.copy(0, 0);
    due("glosses left", x.about(1, 1), 2);
    due("numbers anew", x.gloss(1, 1, 1), 0);
    due("its place", x.gloss(1, 0, 2), 1);
  }

  private static void copiedTurn() {
    sentence("turn: places i and i + 1 of the TEXT, from 0 on, both in no SPAN, with unlike WORDS: a chance; taken:"
        + " they change places, i goes on by two; else by one.");
    due("no words", copied("", "turn 1;"), "");
    due("one word", copied("1", "turn 1;"), "1");
    due("two words", copied("1 2", "turn 1;"), "2 1 t1/1");
    due("like words", copied("1 1", "turn 1;"), "1 1");
    due("by two", copied("1 2 3", "turn 1;"), "2 1 3 t1/1");
    due("by one", copied("1 2 3", "turn 2;"), "1 3 2 t1/2");
    due("the first in a span", copied("[1|a9]2", "turn 1;"), "[1|a9]2");
    due("the second in a span", copied("1[2|a9]", "turn 1;"), "1[2|a9]");
    due("both in one", copied("[1 2|a9]", "turn 1;"), "[1 2|a9]");
    due("behind a span", copied("[1 2|a9]3 4", "turn 1;"), "[1 2|a9]4 3 t1/1");
    due("rows are no text", copied("[1|a2 3]", "turn 1;"), "[1|a2 3]");
    due("40 words", copied(words(20, "1 2"), "turn 1;"), words(20, "2 1") + " t20/20");
  }

  private static void copiedInto() {
    sentence("into: each GLOSS ABOVE on the TEXT, by numbers, if the TEXT would then have 40 WORDS at most: a chance;");
    due("none", copied("1", "into ahead 1;"), "1");
    due("one beside", copied("[1|b2]", "into ahead 1;"), "[1|b2]");
    due("one on a row", copied("[1|b2[3|a4]]", "into ahead 1;"), "[1|b2[3|a4]]");
    due("by numbers", copied("[1|a2|b3|a4][5|a6]", "into ahead 2;"), "4[1|a2|b3][5|a6] i1/3");
    String text = words(35, "0");
    due("40 then", copied(text + "[1|a2 3 4 5]", "into ahead 1;"), text + " 2 3 4 5 1 i1/1");
    due("40 then, behind", copied(text + "[1|a2 3 4 5]", "into behind 1;"), text + " 1 2 3 4 5 i1/1");
    due("41 then", copied(text + "[1 9|a2 3 4 5]", "into ahead 1;"), text + "[1 9|a2 3 4 5]");
    due("41 then, behind", copied(text + "[1 9|a2 3 4 5]", "into behind 1;"), text + "[1 9|a2 3 4 5]");
    due("40 then, instead", copied(text + "[1 9 9 9 9|a2 3 4 5|b6]", "into instead 1;"), text + "[2 3 4 5|b6] i1/1");
    due("40 again, instead", copied(text + " 0[1 9 9 9|a2 3 4 5|b6]", "into instead 1;"), text + " 0[2 3 4 5|b6] i1/1");
    due("41 then, instead", copied(text + " 0 0[1 9 9|a2 3 4 5|b6]", "into instead 1;"), text + " 0 0[1 9 9|a2 3 4 5|b6]");
    due("one too long is no chance", copied(words(37, "0") + "[1|a2 3 4 5|a6|a7]", "into ahead 2;"),
        words(37, "0") + " 7[1|a2 3 4 5|a6] i1/2");
    due("full by an earlier one", copied(words(38, "0") + "[1|a2|a3]", "into ahead 1;"), words(38, "0") + " 2[1|a3] i1/1");
  }

  private static void copiedIntoTaken() {
    sentence("taken: its ROW's WORDS come into the TEXT right ahead of its SPAN, or right behind it (in no SPAN), or"
        + " in the place of its LEMMA (its SPAN has them then, with its other GLOSSES); the GLOSS goes, with all on"
        + " its ROW.");
    due("ahead, at the beginning", copied("[1|a2 3|b4]5", "into ahead 1;"), "2 3[1|b4]5 i1/1");
    due("ahead, at the end", copied("5[1 6|a2 3|b4]", "into ahead 1;"), "5 2 3[1 6|b4] i1/1");
    due("behind, at the beginning", copied("[1 6|a2 3|b4]5", "into behind 1;"), "[1 6|b4]2 3 5 i1/1");
    due("behind, at the end", copied("5[1|a2 3|b4]", "into behind 1;"), "5[1|b4]2 3 i1/1");
    due("behind, ahead of a span", copied("[1|a2][3|b4]5[6|b7]", "into behind 1;"), "1 2[3|b4]5[6|b7] i1/1");
    due("ahead, behind a span", copied("[1|b2][3|a4][5|b6]", "into ahead 1;"), "[1|b2]4 3[5|b6] i1/1");
    due("instead, ahead of a span", copied("[1|a2 3][4|b5]", "into instead 1;"), "2 3[4|b5] i1/1");
    due("instead, behind another gloss", copied("[1|b2|a3 4]5", "into instead 1;"), "[3 4|b2]5 i1/1");
    due("instead, longer", copied("5[1|a2 3 4|b6]7[8|b9]", "into instead 1;"), "5[2 3 4|b6]7[8|b9] i1/1");
    due("instead, shorter", copied("5[1 0 1|a2|b6]7[8|b9]", "into instead 1;"), "5[2|b6]7[8|b9] i1/1");
    due("instead, all of the text", copied("[1 0 1|a2]", "into instead 1;"), "2 i1/1");
    due("two ahead", copied("[1|a2|a3]", "into ahead 1;"), "2 3 1 i2/2");
    due("two behind", copied("[1|a2|a3]", "into behind 1;"), "1 3 2 i2/2");
    due("two instead", copied("0[1|a2 3|a4|b5]6", "into instead 1;"), "0[4|b5]6 i2/2");
    due("all on its row", copied("[1|a2[3|b4[5|a6]]][7|b8]", "into ahead 1;"), "2 3 1[7|b8] i1/1");
    due("spans behind go on", copied("[1|a2][3|a4][5|b6]", "into ahead 1;"), "2 1 4 3[5|b6] i2/2");
    GlossedBooks x = library("[1 2|a3|b4]");
    hand(x, 0, "into behind 1;");
    x.copy(0, 0);
    due("the span is as it was", x.gloss(1, 0, 2) + 10 * x.gloss(1, 0, 3), 10);
  }

  private static void spanWithoutGlosses() {
    sentence("A SPAN without GLOSSES is none any more.");
    GlossedBooks x = library("[1|a2]3", "[1|b2][3|a4]", "[1|a2[3|b4]]");
    hand(x, 0, "into ahead 1;");
    hand(x, 1, "drop 2;move 1;");
    x.copy(0, 0);
    due("slipped in", printed(x, 3), "2 1 3");
    due("spans", x.about(3, 5), 0);
    x.copy(1, 1);
    due("a gloss moves to its word", printed(x, 4), "1[3|b2]");
    due("spans", x.about(4, 5), 1);
    due("lifted", x.lift(2, 1), 1);
    due("printed", printed(x, 2), "[1|a2 3]");
    due("spans", x.about(2, 5), 1);
  }

  private static void copiedDrop() {
    sentence("drop: each GLOSS there still is, by numbers (as they were ahead of drop), is a chance; taken: it goes,"
        + " with all on its ROW (those gone are no chance any more).");
    due("none", copied("1 2", "drop 1;"), "1 2");
    due("all", copied("[1|a2|b3][4|a5]", "drop 1;"), "1 4 d3/3");
    due("those on rows too", copied("[1|a2[3|b4]]", "drop 2;"), "[1|a2 3] d1/2");
    due("those gone", copied("[1|a2[3|b4[5|a6]]][7|b8]", "drop 1;"), "1 7 d2/2");
    due("those gone, counted", copied("[0|a0][1|a2[3|b4]][5|a6][7|a8]", "drop 2;"), "[0|a0]1[5|a6]7 d2/4");
    due("numbers stay as they were", copied("[1|a2][3|a4][5|a6][7|a8]", "drop 2;"), "[1|a2]3[5|a6]7 d2/4");
    due("20", copied("[1" + "|a2".repeat(20) + "]", "drop 20;"), "[1" + "|a2".repeat(19) + "] d1/20");
    due("those slipped in are none", copied("[1|a2|b3]", "into ahead 1;drop 1;"), "2 1 i1/1 d1/1");
  }

  private static void copiedMove() {
    sentence("move: each GLOSS BESIDE on the TEXT, by numbers, that is the only one of a SPAN of one WORD behind"
        + " which a WORD in no SPAN stands: a chance; taken: its SPAN is that next WORD.");
    due("one", copied("[1|b2]3", "move 1;"), "1[3|b2] m1/1");
    due("above", copied("[1|a2]3", "move 1;"), "[1|a2]3");
    due("on a row", copied("[1|a[2|b3]4]", "move 1;"), "[1|a[2|b3]4]");
    due("not the only one", copied("[1|b2|b3]4", "move 1;"), "[1|b2|b3]4");
    due("with one above", copied("[1|a2|b3]4", "move 1;"), "[1|a2|b3]4");
    due("two words", copied("[1 2|b3]4", "move 1;"), "[1 2|b3]4");
    due("no word behind", copied("1[2|b3]", "move 1;"), "1[2|b3]");
    due("a span behind", copied("[1|b2][3|a4]", "move 1;"), "[1|b2][3|a4]");
    due("one that moved makes way too late", copied("[1|b2][3|b4]5", "move 1;"), "[1|b2]3[5|b4] m1/1");
    due("one that moved is in the way", copied("[1|b2]3[4|b5]6", "move 1;"), "1[3|b2]4[6|b5] m2/2");
    due("each second", copied("[1|b2]3[4|b5]6", "move 2;"), "[1|b2]3 4[6|b5] m1/2");
    due("with all on its row", copied("[1|b2[3|a4]]5", "move 1;"), "1[5|b2[3|a4]] m1/1");
    due("at the 40th word", copied(words(38, "0") + "[1|b2]3", "move 1;"), words(38, "0") + " 1[3|b2] m1/1");
  }

  private static void numbersAnew() {
    sentence("At the end GLOSSES have numbers anew, in order of their '|' as PRINTED. (Numbers stay till then; also"
        + " SPANS and their order.)");
    GlossedBooks x = library("[1|a2][3|b4[5|a6]|a7][8|b9]");
    hand(x, 0, "into ahead 2;move 1;");
    x.copy(0, 0);
    due("printed", printed(x, 1), "[1|a2]7[3|b4[5|a6]][8|b9]");
    int[] hosts = {NONE, NONE, 1, NONE};
    int[] rows = {2, 4, 6, 9};
    for (int g = 0; g < 4; g++) {
      due("host", x.gloss(1, g, 1), hosts[g]);
      due("row", x.gloss(1, g, 7), rows[g]);
    }
    due("no more", x.gloss(1, 4, 1), UNKNOWN);
  }

  private static void besideOneAnother() {
    sentence("BESIDE one another are TEXTS of BOOKS a and b: each WORD of a beside one of b or LEFT, each of b"
        + " beside one of a or PUT, in order; COST: 1 for each LEFT, each PUT, each two beside one another that are"
        + " unlike.");
    due("none and none", besides("", ""), "cost 0");
    due("all LEFT", besides("1 2 3", ""), "- - - cost 3");
    due("all PUT", besides("", "1 2 3"), "cost 3");
    due("like", besides("1 2", "1 2"), "0 1 cost 0");
    due("unlike", besides("1 2", "1 3"), "0 1 cost 1");
    due("one LEFT", besides("1 2 3", "1 3"), "0 - 1 cost 1");
    due("one PUT", besides("1 3", "1 2 3"), "0 2 cost 1");
    due("in order", besides("1 2", "2 1"), "0 1 cost 2");
    due("glosses are no text", besides("[1|a9]2", "1[2|b8]"), "0 1 cost 0");
    GlossedBooks x = library(words(40, "1"), words(40, "2"), "", words(39, "2") + " 1");
    due("40 unlike", x.distance(0, 1), 40);
    due("40 LEFT", x.distance(0, 2), 40);
    due("40 PUT", x.distance(2, 0), 40);
    due("40 with a like one", x.distance(0, 3), 39);
    due("the last of 40", x.beside(0, 3, 39), 39);
    x = library(words(40, "1"), words(20, "1"), words(39, "1"), words(20, "2 1"));
    due("40 and 20", x.distance(0, 1), 20);
    due("20 and 40", x.distance(1, 0), 20);
    due("40 and 39", x.distance(0, 2), 1);
    due("39 and 40", x.distance(2, 0), 1);
    due("every second", x.distance(3, 0), 20);
    due("every second", x.distance(3, 1), 20);
    x = library("50" + between(39), between(39) + " 51");
    due("the first of 40 LEFT, the last PUT", x.distance(0, 1), 2);
    due("the first of 40 PUT, the last LEFT", x.distance(1, 0), 2);
    due("the first LEFT", x.beside(0, 1, 0), NONE);
    due("the 40th", x.beside(0, 1, 39), 38);
    due("the 39th", x.beside(1, 0, 38), 39);
    due("the 40th LEFT", x.beside(1, 0, 39), NONE);
  }

  private static void firstOfLikeOnes() {
    sentence("DISTANCE is the least COST; of like ones the first: from the beginning, two beside one another ahead"
        + " of one LEFT, that ahead of one PUT.");
    due("beside ahead of LEFT", besides("1 1", "1"), "0 - cost 1");
    due("unlike beside ahead of LEFT", besides("1 2", "3"), "0 - cost 2");
    due("beside ahead of PUT", besides("1", "1 1"), "0 cost 1");
    due("unlike beside ahead of PUT", besides("3", "1 2"), "0 cost 2");
    due("LEFT ahead of PUT", besides("1 2 1", "2 1 2"), "- 0 1 cost 2");
    due("LEFT ahead of PUT", besides("2 1 2", "1 2 1"), "- 0 1 cost 2");
    due("least first of all", besides("1 2 3 4", "2 3 4"), "- 0 1 2 cost 1");
    due("least first of all", besides("2 3 4", "1 2 3 4"), "1 2 3 cost 1");
  }

  private static int slipped(String a, String b) {
    return library(a, b).slipped(0, 1);
  }

  private static void slippedGlosses() {
    sentence("SLIPPED is a GLOSS on the TEXT of a (by b), if its ROW's WORDS stand side by side in b, all PUT, so that"
        + " they end right ahead of the WORD of b beside the first WORD of its LEMMA, or begin right behind that"
        + " beside the last one (if there is such a one).");
    due("ahead, at the beginning", slipped("[1|a3]", "3 1"), 1);
    due("behind, at the end", slipped("[1|a3]", "1 3"), 1);
    due("one beside", slipped("[1|b3]", "1 3"), 1);
    due("eight words", slipped("1[2|b11 12 13 14 15 16 17 18]3", "1 11 12 13 14 15 16 17 18 2 3"), 1);
    due("seven of eight", slipped("1[2|b11 12 13 14 15 16 17 18]3", "1 12 13 14 15 16 17 18 2 3"), 0);
    due("not PUT", slipped("[1|a3]", "3"), 0);
    due("not PUT, its own words", slipped("[1|a1]", "1"), 0);
    due("not PUT, beside the next", slipped("[1|a2]2", "1 2"), 0);
    due("not PUT, beside the one ahead", slipped("2[1|a2]", "2 1"), 0);
    due("not PUT, the 40th", slipped(words(38, "0") + "[1|a2]2", words(38, "0") + " 1 2"), 0);
    due("PUT as the 40th", slipped(words(38, "0") + "[1|a2]", words(38, "0") + " 1 2"), 1);
    due("half of it PUT", slipped("2[1|a2 3]", "2 3 1"), 0);
    due("none there", slipped("[1|a3]", "1"), 0);
    due("no words", slipped("[1|a3]", ""), 0);
    due("not right ahead", slipped("1[2|a3]4", "3 1 2 4"), 0);
    due("not right behind", slipped("1[2|a3]4", "1 2 4 3"), 0);
    due("not side by side", slipped("1[2|a3 5]4", "1 3 9 5 2 4"), 0);
    due("not in order", slipped("1[2|a3 5]4", "1 5 3 2 4"), 0);
    due("too long at the beginning", slipped("[2|a3 5]4", "5 2 4"), 0);
    due("too long at the end", slipped("4[2|a3 5]", "4 2 3"), 0);
    due("within the lemma", slipped("1[2 6|a3]4", "1 2 3 6 4"), 0);
    due("ahead of the last word alone", slipped("1[2 6|a3]4", "1 3 2 6 4"), 1);
    due("the first word LEFT", slipped("[9 1 2 3|a5]7", "1 2 3 5 7"), 1);
    due("the last word LEFT", slipped("7[1 2 3 9|a5]", "7 5 1 2 3"), 1);
    due("the only word LEFT", slipped("[8|a5]1 2 3", "1 2 3 5"), 0);
    due("on a row", slipped("1[2|a3[5|b9]]4", "1 3 5 9 2 4"), 0);
    due("the second of a span", slipped("1[2|a3|b5]4", "1 2 5 4"), 2);
    due("one on each side", slipped("1[2|a3|b5]4", "1 3 2 5 4"), 3);
  }

  private static void readings() {
    sentence("WITNESSES are a SET of BOOKS beside a BASE. READING of a BOOK at a place of the BASE: the WORD beside"
        + " it, or NONE (LEFT).");
    GlossedBooks x = library("1 2 3", "1 0 3", "1 3", "");
    due("another word", x.reading(0, 1, 1), 0);
    due("LEFT", x.reading(0, 2, 1), NONE);
    due("behind it", x.reading(0, 2, 2), 3);
    due("no words", x.reading(0, 3, 0), NONE);
    due("of the base", x.reading(0, 0, 2), 3);
    due("PUT is no reading", x.reading(2, 0, 1), 3);
  }

  private static void mostHave() {
    sentence("MOST at a place: the READING that most have, the BASE and the WITNESSES (other than the BASE) counted;"
        + " of like ones that of the BASE, else the least (NONE is less than all).");
    GlossedBooks x = library("5 9", "3 9", "3 9", "7 9", "7 9", "5 9", "9", "9", "0 9", "0 9");
    due("no witness", x.most(0, 0, 0, 0), 5);
    due("how many", x.most(0, 0, 0, 1), 1);
    due("the base among the witnesses counts once", x.most(0, 1, 0, 1), 1);
    due("one against the base", x.most(0, 2, 0, 0), 5);
    due("two against the base", x.most(0, 6, 0, 0), 3);
    due("how many", x.most(0, 6, 0, 1), 2);
    due("two against the base, it is in the set", x.most(0, 7, 0, 0), 3);
    due("two and two, the least", x.most(0, 0b11110, 0, 0), 3);
    due("two and two and the base's", x.most(0, 0b111110, 0, 0), 5);
    due("two and two, NONE is less", x.most(0, 0b11000110, 0, 0), NONE);
    due("how many", x.most(0, 0b11000110, 0, 1), 2);
    due("NONE is less than 0", x.most(0, 0b1111000000, 0, 0), NONE);
    due("0 is the least word", x.most(0, 0b1100011000, 0, 0), 0);
    due("all like the base", x.most(0, 1023, 1, 1), 10);
    due("a base of another text", x.most(6, 1023, 0, 0), 9);
    x = library("5", "3", "7", "7");
    due("more have a greater one", x.most(0, 14, 0, 0), 7);
    due("the base's of like ones, book 1", x.most(1, 9, 0, 0), 3);
    due("how many have book 1's", x.most(1, 9, 0, 1), 1);
    due("two have the base's, book 2", x.most(2, 11, 0, 1), 2);
  }

  private static void restoredText() {
    sentence("RESTORED: MOST at each place, those that are NONE left out.");
    GlossedBooks x = library("1 2 3", "1 3", "1 3", "", "");
    due("no witness", x.restored(0, 0, NONE), 3);
    due("one left out", x.restored(0, 6, NONE), 2);
    due("word 0", x.restored(0, 6, 0), 1);
    due("word 1", x.restored(0, 6, 1), 3);
    due("word 2", x.restored(0, 6, 2), NONE);
    due("all left out", x.restored(0, 24, NONE), 0);
    due("word 0", x.restored(0, 24, 0), NONE);
    due("a base without words", x.restored(3, 31, NONE), 0);
    x = library(words(40, "1"), words(40, "2"), words(40, "2"));
    due("40 words", x.restored(0, 6, NONE), 40);
    due("the last", x.restored(0, 6, 39), 2);
    due("behind it", x.restored(0, 6, 40), NONE);
  }

  private static void groupsOfTwo() {
    sentence("A GROUP: at a place, by a READING other than the BASE's WORD: the SET of WITNESSES that have it, two"
        + " or more.");
    GlossedBooks x = library("1 2", "1 3", "1 3", "1 2", "1", "1");
    due("no witness", x.group(0, 0, NONE), 0);
    due("one alone", x.group(0, 2, NONE), 0);
    due("two", x.group(0, 6, NONE), 1);
    due("two", x.group(0, 6, 0), 6);
    due("two like the base", x.group(0, 9, NONE), 0);
    due("two of NONE", x.group(0, 48, 0), 48);
    due("the base among them", x.group(0, 63, NONE), 2);
    due("one of each", x.group(0, 0b10010, NONE), 0);
    GlossedBooks y = library("1", "2", "2", "2", "2", "2", "2", "2", "2", "2");
    due("nine", y.group(0, 1023, 0), 1022);
    due("a base without words", library("", "1", "1").group(0, 6, NONE), 0);
    y = library("1", "1", "2", "2");
    due("book 0 in it, by base 2", y.group(2, 15, 0), 3);
    due("groups by base 2", y.group(2, 15, NONE), 1);
    due("groups by base 1", y.group(1, 15, 0), 12);
  }

  private static void orderOfGroups() {
    sentence("GROUPS: all unlike such SETS, in order of places, then READINGS (NONE first).");
    GlossedBooks x = library("5 5", "5", "5", "0 5", "0 5", "63 5", "63 5", "5 6", "5 6");
    due("places", x.group(0, 0b111100000, NONE), 2);
    due("place 0", x.group(0, 0b111100000, 0), 96);
    due("place 1", x.group(0, 0b111100000, 1), 384);
    x = library("1 5", "1", "1", "1 0", "1 0", "1 63", "1 63", "1 5");
    due("readings", x.group(0, 255, NONE), 3);
    due("NONE", x.group(0, 255, 0), 6);
    due("0", x.group(0, 255, 1), 24);
    due("63", x.group(0, 255, 2), 96);
    x = library("1 2 3", "4 2 4", "4 2 4", "1 2 4");
    due("like sets are one", x.group(0, 6, NONE), 1);
    due("unlike sets are two", x.group(0, 14, NONE), 2);
    due("the second", x.group(0, 14, 1), 14);
    groupsOfFullBooks();
  }

  /** Ten books of 40 words that have no word of the base: at each place four groups at most. */
  private static void groupsOfFullBooks() {
    GlossedBooks x = new GlossedBooks();
    LinkedHashSet<Integer> sets = new LinkedHashSet<>();
    book(x, words(40, "0"));
    for (int k = 1; k < 10; k++) {
      StringBuilder text = new StringBuilder();
      for (int place = 0; place < 40; place++) {
        text.append(wordAt(place, k)).append(' ');
      }
      book(x, text.toString());
    }
    for (int place = 0; place < 40; place++) {
      for (int word = 1; word <= 4; word++) {
        int set = 0;
        for (int k = 1; k < 10; k++) {
          set |= wordAt(place, k) == word ? 1 << k : 0;
        }
        if (Integer.bitCount(set) > 1) {
          sets.add(set);
        }
      }
    }
    List<Integer> groups = new ArrayList<>(sets);
    due("groups of full books", x.group(0, 1023, NONE), groups.size());
    for (int i = 0; i < groups.size(); i++) {
      due("group " + i, x.group(0, 1023, i), groups.get(i));
    }
    due("pairs that clash", x.clash(0, 1023), clashingPairs(groups));
  }

  private static int wordAt(int place, int k) {
    return 1 + (k * k * (place + 1) + place * k / 3 + place / 2) % 4;
  }

  private static int clashingPairs(List<Integer> groups) {
    int pairs = 0;
    for (int one : groups) {
      for (int other : groups) {
        int both = one & other;
        pairs += one < other && both != 0 && both != one && both != other ? 1 : 0;
      }
    }
    return pairs;
  }

  private static void clashes() {
    sentence("Two GROUPS CLASH, if they have some in common, and each has one that the other has not.");
    GlossedBooks x = library("1 1 1", "2 1 1", "2 2 1", "1 2 1", "1 1 1");
    due("they clash", x.clash(0, 14), 1);
    due("one group", x.clash(0, 6), 0);
    due("no group", x.clash(0, 0), 0);
    x = library("1 1", "2 1", "2 1", "1 2", "1 2");
    due("none in common", x.clash(0, 30), 0);
    x = library("1 1", "2 1", "2 2", "2 2");
    due("one within the other", x.clash(0, 14), 0);
    due("groups", x.group(0, 14, NONE), 2);
  }

  private static void soundGroups() {
    sentence("SOUND are GROUPS that CLASH with none.");
    GlossedBooks x = library("1 1 1", "2 1 1", "2 2 1", "1 2 1", "1 1 2", "1 1 2");
    due("groups", x.group(0, 62, NONE), 3);
    due("sound", x.sound(0, 62, NONE), 1);
    due("it", x.sound(0, 62, 0), 48);
    due("no more", x.sound(0, 62, 1), NONE);
    due("none is sound", x.sound(0, 14, NONE), 0);
    due("none is sound", x.sound(0, 14, 0), NONE);
    due("all are sound", x.sound(0, 0b110110, NONE), 2);
    due("in order", x.sound(0, 0b110110, 0), 6);
    due("in order", x.sound(0, 0b110110, 1), 48);
    due("no groups", x.sound(0, 0, NONE), 0);
  }

  private static void leastTree() {
    sentence("THE LEAST TREE of a SET from a ROOT in it: the ROOT is in it first; then, again and again, of all pairs"
        + " (one in it, one of the SET that is not yet) that with the least DISTANCE, of like ones that with the"
        + " least BOOK not in it, then the least one in it: the one in it is the other one's PARENT.");
    GlossedBooks x = library("1", "2", "3");
    due("the root alone", x.tree(1, 2, 0), 0);
    due("the least one in it", x.parent(0, 7, 2), 0);
    due("the least one in it", x.parent(2, 7, 1), 0);
    due("from the root", x.parent(2, 7, 0), 2);
    x = library("10 11", "20 21", "20 22");
    due("the least book not in it", x.parent(0, 7, 1), 0);
    due("then from there", x.parent(0, 7, 2), 1);
    x = library("10 11 12 13", "20 11 12 13", "20 21 22 23", "10 21 22 23");
    due("the least not in it goes ahead of the least in it", x.parent(0, 15, 2), 1);
    due("then from there", x.parent(0, 15, 3), 2);
    due("the sum", x.tree(0, 15, 0), 5);
    due("without the bridge", x.parent(0, 13, 3), 0);
    x = library("1", "1", "1", "1", "1", "1", "1", "1", "1", "1");
    for (int b = 0; b < 10; b++) {
      due("ten like ones", x.parent(9, 1023, b), b == 9 ? NONE : b == 0 ? 9 : 0);
    }
    due("the sum", x.tree(9, 1023, 0), 0);
    x = library("", words(40, "1"), words(40, "2"));
    due("the greatest distances", x.tree(0, 7, 0), 80);
  }

  private static void astrays() {
    sentence("ASTRAY are BOOKS of the SET but the ROOT whose PARENT is not their EXEMPLAR.");
    GlossedBooks x = library("1 2 3 4");
    hand(x, 0, "for 1 9 1;");
    hand(x, 1, "for 4 9 1;");
    x.copy(0, 0);
    x.copy(1, 1);
    book(x, "1 2 3 5");
    due("none", x.tree(0, 7, 1), 0);
    due("the root alone", x.tree(1, 2, 1), 0);
    due("one told has no exemplar", x.tree(0, 15, 1), 1);
    due("its exemplar is not in the set", x.tree(0, 5, 1), 1);
    due("from elsewhere", x.tree(2, 7, 1), 2);
  }

  private static void explainedWords() {
    sentence("EXPLAINED in a BOOK is a WORD w by a WORD v, if some GLOSS has a LEMMA of the one WORD w and a ROW of"
        + " the one WORD v.");
    GlossedBooks x = library("[0|a63][63|b0][1|b2 3][4 5|a6][7|a[8|b9]][8|a10]8", "");
    due("0", x.explained(0, 0), 1L << 63);
    due("63", x.explained(0, 63), 1);
    due("a row of two", x.explained(0, 1), 0);
    due("a lemma of two", x.explained(0, 4), 0);
    due("a lemma of two", x.explained(0, 5), 0);
    due("a row with a span", x.explained(0, 7), 1 << 8);
    due("on a row and on the text", x.explained(0, 8), 1 << 9 | 1 << 10);
    due("in a book without words", x.explained(1, 0), 0);
    due("by itself", library("[3|a3]").explained(0, 3), 8);
  }

  private static void stepsBetween() {
    sentence("STEPS from w to v: the least number of such by which one comes there.");
    StringBuilder chain = new StringBuilder();
    for (int w = 0; w < 20; w++) {
      chain.append('[').append(w).append("|a").append(w + 1).append(']');
    }
    GlossedBooks x = library(chain.toString(), chain.toString().replace("|a20]", "|a0]"), "[1|a2|a3][2|a3]", "[1|a2][2|a2]");
    due("one", x.steps(0, 0, 1), 1);
    due("20", x.steps(0, 0, 20), 20);
    due("not back", x.steps(0, 20, 0), NONE);
    due("not to itself", x.steps(0, 0, 0), NONE);
    due("all round", x.steps(1, 0, 0), 20);
    due("nearly round", x.steps(1, 5, 4), 19);
    due("the least", x.steps(2, 1, 3), 1);
    due("beside a round", x.steps(3, 1, 1), NONE);
    due("not explained", x.steps(2, 63, 0), NONE);
  }

  private static void roundWords() {
    sentence("ROUND are WORDS from which one comes to themselves (1 step or more).");
    StringBuilder ring = new StringBuilder();
    for (int w = 0; w < 20; w++) {
      ring.append('[').append(w).append("|a").append((w + 1) % 20).append(']');
    }
    due("none", library("[1|a2]").round(0), 0);
    due("no words", library("").round(0), 0);
    due("1 step", library("[63|a63]").round(0), 1L << 63);
    due("2 steps", library("[0|a63][63|a0]").round(0), 1L << 63 | 1);
    due("20 steps", library(ring.toString()).round(0), (1 << 20) - 1);
    due("one that leads there is not", library("[1|a2][2|a2]").round(0), 4);
    due("one that is led to is not", library("[2|a2|a3]").round(0), 4);
  }

  // ---- Promises

  private static void promiseOne() {
    sentence("No BOOKS; HANDS have no HABITS.");
    GlossedBooks x = new GlossedBooks();
    due("books", x.count(0), 0);
    due("bytes", x.count(1), 0);
    due("copies", x.count(2), 0);
    due("fault", x.fault(), NONE);
    due("book 0", x.word(0, 0), UNKNOWN);
    due("a set of none", x.group(0, 0, NONE), UNKNOWN);
    for (int h = 0; h < 4; h++) {
      for (int what = 0; what < 8; what++) {
        due("habit", x.habit(h, what), what == 0 ? 0 : NONE);
      }
    }
    book(x, "1 1 2[3|a4][5|b6]7");
    for (int h = 0; h < 4; h++) {
      x.copy(0, h);
      due("a copy without habits", printed(x, h + 1), "1 1 2[3|a4][5|b6]7");
    }
    book(new GlossedBooks(), "1");
    due("another new one", new GlossedBooks().count(0), 0);
  }

  private static void promiseTwo() {
    sentence("Up to eight bytes (n 1 .. 8) of a long, the highest of these first, come behind THE TEXT: how many it"
        + " has. OUTSIDE, FULL (320).");
    String[] ends = {"", "4", "4", "3 4", "3 4", "2 3 4", "2 3 4", "1 2 3 4"};
    for (int n = 1; n <= 8; n++) {
      GlossedBooks x = new GlossedBooks();
      due("feed", x.feed(n, bytes("1 2 3 4 ")), n);
      due("book", x.book(), 0);
      due("it says", printed(x, 0), ends[n - 1]);
    }
    GlossedBooks x = new GlossedBooks();
    due("the first", x.feed(2, bytes("12")), 2);
    due("behind it", x.feed(3, bytes(" 34")), 5);
    x.book();
    due("they say", printed(x, 0), "12 34");
    due("all bits", x.feed(8, -1L), 8);
    due("byte 255", x.book(), -11);
    due("no bits", x.feed(1, Long.MIN_VALUE), 1);
    due("byte 0", x.book(), -11);
    for (int n : new int[] {MIN, -8, -1, 0, 9, 10, 64, 256, MAX}) {
      due("feed of " + n, x.feed(n, 0x3131313131313131L), OUTSIDE);
    }
    due("none came", x.count(1), 0);
    for (int n = 1; n <= 8; n++) {
      GlossedBooks y = new GlossedBooks();
      tell(y, " ".repeat(321 - n));
      due("feed to 321", y.feed(n, 0x3131313131313131L), FULL);
      due("bytes", y.count(1), 321 - n);
      due("less", n == 1 ? 320 : y.feed(n - 1, 0x20202020202020L), 320);
      due("one more", y.feed(1, 0x31), FULL);
    }
  }

  private static void promiseThree() {
    sentence("THE TEXT (it is empty then) is a BOOK (without an EXEMPLAR): its number; -10 less the number of its"
        + " FAULT. FULL: 10 (THE TEXT stays).");
    GlossedBooks x = new GlossedBooks();
    String[] faults = {"x", "64", words(41, "1"), "[1|a2]".repeat(21), "[1|a[2|a[3|a[4|a[5|a6]]]]]"};
    for (int n = 1; n <= 5; n++) {
      due("fault " + n, book(x, faults[n - 1]), -10 - n);
      due("THE TEXT is empty", x.count(1), 0);
      due("no book", x.count(0), 0);
    }
    due("the first", book(x, "1"), 0);
    due("THE TEXT is empty", x.count(1), 0);
    due("exemplar", x.about(0, 3), NONE);
    due("hand", x.about(0, 4), NONE);
    due("taken", x.taken(0, 0, true), NOT);
    due("no more told", x.book(), 1);
    due("no words", x.about(1, 0), 0);
    for (int b = 2; b < 10; b++) {
      due("book", book(x, "" + b), b);
    }
    due("the eleventh", book(x, "turn 3;"), FULL);
    due("again", x.book(), FULL);
    due("THE TEXT stays", x.count(1), 7);
    due("it can be told to a hand", x.hand(2), 1);
    due("M", x.habit(2, 2), 3);
    due("a text of none, FULL", x.book(), FULL);
    GlossedBooks y = library("1");
    y.copy(0, 0);
    due("not a copy's place", book(y, "[1|a2"), -11);
    due("a faulty one leaves nothing in the next", book(y, "3"), 2);
    due("glosses", y.about(2, 1), 0);
    due("exemplar", y.about(2, 3), NONE);
    due("a faulty one with a long row", book(y, "[1|b2 3 4[5|a6"), -11);
    due("it leaves nothing in the next", book(y, "[7|a8][9|b0]"), 3);
    due("printed", printed(y, 3), "[7|a8][9|b0]");
  }

  private static void promiseFour() {
    sentence("THE TEXT (it is empty then) tells HABITS of a HAND: how many clauses; -10 less the number of its FAULT"
        + " (they are as they were). UNKNOWN, OUTSIDE (more than 160 bytes; THE TEXT stays, of both).");
    GlossedBooks x = new GlossedBooks();
    due("clauses", hand(x, 3, "for 1 2 1;for 2 1 1;turn 4;"), 3);
    due("THE TEXT is empty", x.count(1), 0);
    String[] faults = {"turn 5;;", "turn 5;skip 0 1;", "turn 5;turn 6;"};
    for (int n = 1; n <= 3; n++) {
      due("fault " + n, hand(x, 3, faults[n - 1]), -10 - n);
      due("THE TEXT is empty", x.count(1), 0);
      due("M is as it was", x.habit(3, 2), 4);
      due("'for' as it was", x.habit(3, 0), 2);
      due("no skip", x.habit(3, 1), NONE);
    }
    due("others in their place", hand(x, 3, "drop 1;"), 1);
    due("turn is gone", x.habit(3, 2), NONE);
    due("'for' is gone", x.habit(3, 0), 0);
    due("all in their place", hand(x, 3, "skip 5 1;into behind 2;"), 2);
    due("others in their place", hand(x, 3, "drop 1;"), 1);
    for (int what : new int[] {1, 3, 6, 7}) {
      due("skip and into are gone", x.habit(3, what), NONE);
    }
    due("another hand has none of them", hand(x, 2, "move 1;"), 1);
    due("no D", x.habit(2, 6), NONE);
    due("none in their place", x.hand(3), 0);
    due("drop is gone", x.habit(3, 4), NONE);
    tell(x, "7");
    for (int h : new int[] {MIN, -1, 4, 5, 32, MAX}) {
      due("hand " + h, x.hand(h), UNKNOWN);
    }
    due("THE TEXT stays", x.count(1), 1);
    tell(x, " ".repeat(160));
    due("161 bytes", x.hand(0), OUTSIDE);
    due("THE TEXT stays", x.count(1), 161);
    due("161 bytes of no hand", x.hand(4), UNKNOWN);
    due("THE TEXT stays", x.book(), 0);
    due("it says", printed(x, 0), "7");
    due("320 bytes", hand(x, 0, " ".repeat(320)), OUTSIDE);
    due("THE TEXT stays", x.count(1), 320);
    x.book();
    due("160 bytes", hand(x, 0, " ".repeat(160)), 0);
  }

  private static void promiseFive() {
    sentence("The byte of the FAULT of the latest book() or hand() that was not refused otherwise; NONE.");
    GlossedBooks x = new GlossedBooks();
    due("of none", x.fault(), NONE);
    book(x, "1  64");
    due("of a book", x.fault(), 3);
    due("told twice", x.fault(), 3);
    x.hand(4);
    due("a hand that is UNKNOWN", x.fault(), 3);
    hand(x, 0, " ".repeat(161));
    due("a hand that is OUTSIDE", x.fault(), 3);
    x.book();
    due("a good book", x.fault(), NONE);
    hand(x, 0, "turn");
    due("of a hand", x.fault(), 4);
    x.hand(0);
    due("a good hand", x.fault(), NONE);
    book(x, "x");
    due("at byte 0", x.fault(), 0);
    for (int b = 1; b < 10; b++) {
      x.copy(0, 0);
    }
    due("copies tell no fault", x.fault(), 0);
    x.book();
    due("a book that is FULL", x.fault(), 0);
    hand(x, 0, "turn 1;turn 1;");
    due("of a hand, books are full", x.fault(), 7);
    due("a book that is FULL", book(x, "1"), FULL);
    due("it has no fault", x.fault(), 7);
  }

  private static void promiseSix() {
    sentence("Of a HAND: what = 0 how many 'for', else M of 1 skip, 2 turn, 3 into, 4 drop, 5 move (NONE: it has not"
        + " that), 6 D of skip (NONE), 7 into: 0 ahead, 1 behind, 2 instead (NONE). UNKNOWN, OUTSIDE.");
    String[] clauses = {"for 0 1 99;", "skip 20 11;", "turn 12;", "into ahead 13;", "drop 14;", "move 15;"};
    for (int c = 0; c < 6; c++) {
      GlossedBooks x = new GlossedBooks();
      hand(x, 1, clauses[c]);
      for (int what = 0; what < 6; what++) {
        int other = what == 0 ? 0 : NONE;
        due("habit " + what + " of " + clauses[c], x.habit(1, what), what != c ? other : c == 0 ? 1 : 10 + c);
      }
      due("D", x.habit(1, 6), c == 1 ? 20 : NONE);
      due("into", x.habit(1, 7), c == 3 ? 0 : NONE);
    }
    GlossedBooks x = new GlossedBooks();
    hand(x, 0, "into behind 1;for 1 2 3;for 2 3 4;for 3 4 5;for 4 5 6;");
    due("behind", x.habit(0, 7), 1);
    due("four 'for'", x.habit(0, 0), 4);
    hand(x, 0, "into instead 99;");
    due("instead", x.habit(0, 7), 2);
    due("M", x.habit(0, 3), 99);
    refusedBut("habit of hand", 3, UNKNOWN, (y, h) -> y.habit(h, 0));
    refusedBut("habit", 7, OUTSIDE, (y, what) -> y.habit(0, what));
  }

  private static void promiseSeven() {
    sentence("A COPY of a BOOK by a HAND: its number. UNKNOWN, FULL.");
    refusedBut("copy of book", 2, UNKNOWN, (x, b) -> x.copy(b, 0));
    refusedBut("copy by hand", 3, UNKNOWN, (x, h) -> x.copy(0, h));
    GlossedBooks x = some();
    due("its number", x.copy(0, 0), 3);
    due("of a copy", x.copy(3, 3), 4);
    due("exemplar", x.about(4, 3), 3);
    due("hand", x.about(4, 4), 3);
    for (int b = 5; b < 10; b++) {
      due("its number", x.copy(1, 1), b);
    }
    due("the eleventh", x.copy(0, 0), FULL);
    due("THE TEXT is as it was", x.count(1), 3);
    x = library("1 1");
    hand(x, 0, "for 1 2 1;");
    x.copy(0, 0);
    hand(x, 0, "");
    due("made by habits of then", printed(x, 1), "2 2");
    x.copy(0, 0);
    due("made by habits of now", printed(x, 2), "1 1");
  }

  private static void promiseEight() {
    sentence("Of the making of a BOOK by a HABIT (0 for, 1 skip .. 5 move): how many chances were taken"
        + " (all = false), there were (all = true). UNKNOWN, OUTSIDE, NOT: it is no COPY.");
    GlossedBooks x = library("1 1 1 2 3 3 4[5|a6|b7][8|b9]0");
    hand(x, 0, "for 1 11 2;skip 2 2;turn 2;into ahead 1;drop 3;move 1;");
    x.copy(0, 0);
    due("it is", printed(x, 1), "1 1 11 2 4 3 6[5|b7]8[0|b9]");
    int[] all = {3, 2, 4, 1, 2, 1};
    int[] took = {1, 1, 2, 1, 0, 1};
    for (int habit = 0; habit < 6; habit++) {
      due("chances of " + habit, x.taken(1, habit, true), all[habit]);
      due("taken of " + habit, x.taken(1, habit, false), took[habit]);
      due("no copy", x.taken(0, habit, false), NOT);
    }
    x.copy(1, 1);
    due("a hand without habits", x.taken(2, 0, true), 0);
    hand(x, 0, "");
    x.lift(1, 0);
    due("as it was made", x.taken(1, 3, true), 1);
    refusedBut("taken of book", 2, UNKNOWN, (y, b) -> y.taken(b, 0, true) == NOT ? 0 : y.taken(b, 0, true));
    refusedBut("taken by habit", 5, OUTSIDE, (y, habit) -> y.taken(1, habit, false));
  }

  private static void promiseNine() {
    sentence("WORD i of a TEXT becomes w: what it was. UNKNOWN, OUTSIDE.");
    refusedBut("amend book", 1, UNKNOWN, (x, b) -> b == 2 ? UNKNOWN : x.amend(b, 0, 1));
    refusedBut("amend place", 2, OUTSIDE, (x, i) -> x.amend(0, i, 1));
    refusedBut("amend to", 63, OUTSIDE, (x, w) -> x.amend(0, 0, w));
    due("no words", some().amend(2, 0, 1), OUTSIDE);
    GlossedBooks x = some();
    due("it was", x.amend(0, 2, 0), 6);
    due("it was", x.amend(0, 2, 63), 0);
    due("a lemma's word", x.amend(0, 1, 2), 2);
    due("no other changes", printed(x, 0), "1[2|a3[4|b5]]63");
    due("no other book changes", printed(x, 1), "7[2|a3[4|b5]]6");
    x = library(words(40, "1"));
    due("the 40th", x.amend(0, 39, 2), 1);
    due("the 41st", x.amend(0, 40, 2), OUTSIDE);
  }

  private static void promiseTen() {
    sentence("A GLOSS is lifted: it goes, with all on its ROW (numbers anew): how many went. UNKNOWN.");
    refusedBut("lift of book", 1, UNKNOWN, (x, b) -> b == 2 ? UNKNOWN : x.lift(b, 0));
    refusedBut("lift of gloss", 1, UNKNOWN, (x, g) -> x.lift(0, g));
    due("a book without glosses", some().lift(2, 0), UNKNOWN);
    GlossedBooks x = library("[1|a2[3|b4[5|a6]|b7]|b8][9|b0[1|a2]]");
    due("the innermost", x.lift(0, 2), 1);
    due("printed", printed(x, 0), "[1|a2[3|b4 5|b7]|b8][9|b0[1|a2]]");
    due("the first, with two", x.lift(0, 0), 3);
    due("printed", printed(x, 0), "[1|b8][9|b0[1|a2]]");
    due("host anew", x.gloss(0, 2, 1), 1);
    due("which of its span's anew", x.gloss(0, 0, 6), 0);
    due("the last number", x.lift(0, 3), UNKNOWN);
    due("lifted", x.lift(0, 0), 1);
    due("lifted", x.lift(0, 0), 2);
    due("none is left", x.lift(0, 0), UNKNOWN);
    due("printed", printed(x, 0), "1 9");
    due("depth", x.about(0, 2), 0);
    x = library("[1|a2[3" + "|b4".repeat(19) + "]]");
    due("all 20", x.lift(0, 0), 20);
    due("printed", printed(x, 0), "1");
  }

  private static void promiseEleven() {
    sentence("Byte i of a BOOK as PRINTED; i = NONE: how many it has; NONE: not so many. UNKNOWN.");
    refusedBut("print of book", 2, UNKNOWN, (x, b) -> x.print(b, 0));
    GlossedBooks x = some();
    due("how many", x.print(0, NONE), 14);
    due("the first", x.print(0, 0), '1');
    due("the last", x.print(0, 13), '6');
    for (int i : new int[] {14, 15, 320, 700, 10000, MAX, -2, MIN}) {
      due("byte " + i, x.print(0, i), NONE);
    }
    due("no bytes", x.print(2, NONE), 0);
    due("no byte 0", x.print(2, 0), NONE);
    due("of no book", x.print(3, NONE), UNKNOWN);
  }

  private static void promiseTwelve() {
    sentence("WORD i of a TEXT; NONE: it has not so many. UNKNOWN.");
    refusedBut("word of book", 2, UNKNOWN, (x, b) -> x.word(b, 0));
    GlossedBooks x = some();
    due("the first", x.word(0, 0), 1);
    due("the last", x.word(0, 2), 6);
    for (int i : new int[] {3, 4, 40, 10000, MAX, -1, -2, MIN}) {
      due("word " + i, x.word(0, i), NONE);
    }
    due("no words", x.word(2, 0), NONE);
    x = library(words(40, "63"));
    due("the 40th", x.word(0, 39), 63);
    due("the 41st", x.word(0, 40), NONE);
  }

  private static void promiseThirteen() {
    sentence("Of a BOOK: what = 0 WORDS of its TEXT, 1 GLOSSES, 2 the greatest DEPTH (0), 3 its EXEMPLAR (NONE), 4 its"
        + " HAND (NONE), 5 SPANS in all, 6 GLOSSES ABOVE, 7 WORDS of all ROWS. UNKNOWN, OUTSIDE.");
    refusedBut("about book", 2, UNKNOWN, (x, b) -> x.about(b, 0));
    refusedBut("about", 7, OUTSIDE, (x, what) -> x.about(0, what));
    GlossedBooks x = some();
    int[][] wants = {{3, 2, 2, NONE, NONE, 2, 1, 3}, {3, 2, 2, 0, 0, 2, 1, 3}, {0, 0, 0, NONE, NONE, 0, 0, 0}};
    for (int b = 0; b < 3; b++) {
      for (int what = 0; what < 8; what++) {
        due("about " + b + " " + what, x.about(b, what), wants[b][what]);
      }
    }
    x = library("[1" + "|b1 1 1 1 1".repeat(16) + "|a[2|b[3|b[4|a5]]]]", words(40, "1"));
    int[] want = {1, 20, 4, NONE, NONE, 4, 2, 84};
    for (int what = 0; what < 8; what++) {
      due("about " + what, x.about(0, what), want[what]);
    }
    due("40 words", x.about(1, 0), 40);
    due("a depth of 1", library("[1|a2]").about(0, 2), 1);
  }

  private static void promiseFourteen() {
    sentence("Of a GLOSS: what = 0 KIND, 1 HOST (NONE), 2, 3 the first and the last place of its LEMMA, 4 WORDS of its"
        + " ROW, 5 DEPTH, 6 which of its SPAN's it is, 7 and i WORD i of its ROW (0 .. 7; NONE). UNKNOWN, OUTSIDE.");
    refusedBut("gloss of book", 1, UNKNOWN, (x, b) -> b == 2 ? UNKNOWN : x.gloss(b, 0, 0));
    refusedBut("gloss", 1, UNKNOWN, (x, g) -> x.gloss(0, g, 0));
    refusedBut("of a gloss", 14, OUTSIDE, (x, what) -> x.gloss(0, 0, what));
    due("a book without glosses", some().gloss(2, 0, 0), UNKNOWN);
    GlossedBooks x = library("0[1 2|a63|b11 12 13 14 15 16 17[18|a0]]");
    int[][] wants = {
      {0, NONE, 1, 2, 1, 1, 0, 63, NONE, NONE, NONE, NONE, NONE, NONE, NONE},
      {1, NONE, 1, 2, 8, 1, 1, 11, 12, 13, 14, 15, 16, 17, 18},
      {0, 1, 7, 7, 1, 2, 0, 0, NONE, NONE, NONE, NONE, NONE, NONE, NONE}};
    for (int g = 0; g < 3; g++) {
      for (int what = 0; what < 15; what++) {
        due("gloss " + g + " " + what, x.gloss(0, g, what), wants[g][what]);
      }
    }
    x.lift(0, 0);
    due("behind a lift", x.gloss(0, 0, 6), 0);
    x = library("[1|b1 2 3 4 5 6 7 8]", "[1|a9]");
    due("a short row behind a long one", x.gloss(1, 0, 8), NONE);
  }

  private static void promiseFifteen() {
    sentence("How many: 0 BOOKS, 1 bytes of THE TEXT, 2 COPIES. OUTSIDE.");
    refusedBut("count", 2, OUTSIDE, (x, what) -> x.count(what));
    due("books", some().count(0), 3);
    due("bytes", some().count(1), 3);
    due("copies", some().count(2), 1);
    due("ten books", withTenBooks().count(0), 10);
    due("copies of them", withTenBooks().count(2), 8);
    due("320 bytes", withBytes(320).count(1), 320);
    due("none", new GlossedBooks().count(2), 0);
  }

  private static void promiseSixteen() {
    sentence("DISTANCE. UNKNOWN.");
    refusedBut("distance from", 2, UNKNOWN, (x, a) -> x.distance(a, 0));
    refusedBut("distance to", 2, UNKNOWN, (x, b) -> x.distance(0, b));
    due("from itself", some().distance(0, 0), 0);
    due("from none", some().distance(2, 0), 3);
    due("none from none", some().distance(2, 2), 0);
    due("one unlike", some().distance(0, 1), 1);
  }

  private static void promiseSeventeen() {
    sentence("The place of b BESIDE place i of a; NONE: it is LEFT. UNKNOWN, OUTSIDE.");
    refusedBut("beside, a", 1, UNKNOWN, (x, a) -> a == 2 ? UNKNOWN : x.beside(a, 0, 0));
    refusedBut("beside, b", 2, UNKNOWN, (x, b) -> x.beside(0, b, 0));
    refusedBut("beside, place", 2, OUTSIDE, (x, i) -> x.beside(0, 1, i));
    due("LEFT", some().beside(0, 2, 2), NONE);
    due("a text of none has no place", some().beside(2, 0, 0), OUTSIDE);
    due("the last", some().beside(0, 1, 2), 2);
    due("bounds are those of a", library("1 2 3", "1").beside(0, 1, 2), NONE);
    due("bounds are those of a", library("1", "1 2 3").beside(0, 1, 1), OUTSIDE);
  }

  private static void promiseEighteen() {
    sentence("SLIPPED GLOSSES of a by b: the SET. UNKNOWN.");
    refusedBut("slipped, a", 2, UNKNOWN, (x, a) -> x.slipped(a, 0));
    refusedBut("slipped, b", 2, UNKNOWN, (x, b) -> x.slipped(0, b));
    due("by itself", some().slipped(0, 0), 0);
    due("of none", some().slipped(2, 0), 0);
    due("by none", some().slipped(0, 2), 0);
    due("two of three", slipped("[1|a2][3|a4][5|b6]", "2 1 3 5 6"), 5);
  }

  private static void promiseNineteen() {
    sentence("READING of a BOOK at place i of the BASE. UNKNOWN, OUTSIDE.");
    refusedBut("reading, base", 1, UNKNOWN, (x, base) -> base == 2 ? UNKNOWN : x.reading(base, 0, 0));
    refusedBut("reading of", 2, UNKNOWN, (x, b) -> x.reading(0, b, 0));
    refusedBut("reading at", 2, OUTSIDE, (x, i) -> x.reading(0, 1, i));
    due("a base without words", some().reading(2, 0, 0), OUTSIDE);
    due("bounds are those of the base", library("1", "1 2").reading(0, 1, 1), OUTSIDE);
    due("bounds are those of the base", library("1 2", "1").reading(0, 1, 1), NONE);
  }

  private static void promiseTwenty() {
    sentence("MOST at a place: what = 0 the READING, 1 how many have it. UNKNOWN (bits), OUTSIDE.");
    refusedBut("most, base", 1, UNKNOWN, (x, base) -> base == 2 ? UNKNOWN : x.most(base, 3, 0, 0));
    refusedBut("most, set", 7, UNKNOWN, (x, set) -> x.most(0, set, 0, 0));
    refusedBut("most at", 2, OUTSIDE, (x, i) -> x.most(0, 7, i, 0));
    refusedBut("most, what", 1, OUTSIDE, (x, what) -> x.most(0, 7, 0, what));
    due("a base without words", some().most(2, 7, 0, 0), OUTSIDE);
    due("the base is not in the set", some().most(0, 6, 1, 1), 2);
    due("ten books", withTenBooks().most(0, 1023, 1, 0), NONE);
    due("ten books", withTenBooks().most(0, 1023, 1, 1), 8);
    due("an eleventh", withTenBooks().most(0, 1024, 1, 1), UNKNOWN);
    due("the highest bit", withTenBooks().most(0, MIN, 1, 1), UNKNOWN);
    due("all bits", withTenBooks().most(0, -1, 1, 1), UNKNOWN);
  }

  private static void promiseTwentyOne() {
    sentence("WORD i of RESTORED; i = NONE: how many it has; NONE: not so many. UNKNOWN (bits).");
    refusedBut("restored, base", 2, UNKNOWN, (x, base) -> x.restored(base, 3, NONE));
    refusedBut("restored, set", 7, UNKNOWN, (x, set) -> x.restored(0, set, NONE));
    GlossedBooks x = some();
    due("how many", x.restored(0, 3, NONE), 3);
    due("the last", x.restored(0, 3, 2), 6);
    for (int i : new int[] {3, 40, MAX, -2, MIN}) {
      due("word " + i, x.restored(0, 3, i), NONE);
    }
  }

  private static void promiseTwentyTwo() {
    sentence("GROUPS: i = NONE how many, else the i-th; NONE. UNKNOWN (bits).");
    refusedBut("group, base", 2, UNKNOWN, (x, base) -> x.group(base, 7, NONE));
    refusedBut("group, set", 7, UNKNOWN, (x, set) -> x.group(0, set, NONE));
    GlossedBooks x = library("1 1", "2 1", "2 3", "1 3");
    due("how many", x.group(0, 15, NONE), 2);
    due("the first", x.group(0, 15, 0), 6);
    due("the last", x.group(0, 15, 1), 12);
    for (int i : new int[] {2, 160, MAX, -2, MIN}) {
      due("group " + i, x.group(0, 15, i), NONE);
    }
  }

  private static void promiseTwentyThree() {
    sentence("How many pairs of GROUPS CLASH. UNKNOWN (bits).");
    refusedBut("clash, base", 2, UNKNOWN, (x, base) -> x.clash(base, 7));
    refusedBut("clash, set", 7, UNKNOWN, (x, set) -> x.clash(0, set));
    GlossedBooks x = library("1 1 1", "2 1 2", "2 2 1", "1 2 2");
    due("three pairs of three", x.clash(0, 14), 3);
    due("no pairs", x.clash(0, 6), 0);
    due("no witnesses", x.clash(0, 0), 0);
  }

  private static void promiseTwentyFour() {
    sentence("SOUND GROUPS: likewise as group(). UNKNOWN (bits).");
    refusedBut("sound, base", 2, UNKNOWN, (x, base) -> x.sound(base, 7, NONE));
    refusedBut("sound, set", 7, UNKNOWN, (x, set) -> x.sound(0, set, NONE));
    GlossedBooks x = library("1 1", "2 1", "2 1", "1 3", "1 3");
    due("how many", x.sound(0, 31, NONE), 2);
    due("the first", x.sound(0, 31, 0), 6);
    due("the last", x.sound(0, 31, 1), 24);
    for (int i : new int[] {2, 160, MAX, -2, MIN}) {
      due("sound " + i, x.sound(0, 31, i), NONE);
    }
  }

  private static void promiseTwentyFive() {
    sentence("PARENT of a BOOK in THE LEAST TREE; NONE: it is the ROOT. UNKNOWN (bits; the ROOT or the BOOK is not in"
        + " the SET).");
    refusedBut("parent, root", 2, UNKNOWN, (x, root) -> x.parent(root, 7, 0));
    refusedBut("parent of", 2, UNKNOWN, (x, b) -> x.parent(0, 7, b));
    GlossedBooks x = some();
    for (int set : new int[] {0, 2, 6, 8, 9, 15, 1025, -1, MIN, MIN + 1, MAX}) {
      due("set " + set, x.parent(0, set, 0), UNKNOWN);
    }
    due("the root", x.parent(1, 7, 1), NONE);
    due("alone", x.parent(2, 4, 2), NONE);
    due("the book is not in the set", x.parent(0, 5, 1), UNKNOWN);
    due("the root is not in the set", x.parent(1, 5, 0), UNKNOWN);
    due("it is there", x.parent(0, 5, 2), 0);
    due("of no books", new GlossedBooks().parent(0, 0, 0), UNKNOWN);
    due("32 is not 0", x.parent(32, 7, 0), UNKNOWN);
  }

  private static void promiseTwentySix() {
    sentence("THE LEAST TREE: what = 0 the sum of DISTANCES of PARENTS, 1 how many ASTRAY. UNKNOWN (bits; the ROOT is"
        + " not in the SET), OUTSIDE.");
    refusedBut("tree, root", 2, UNKNOWN, (x, root) -> x.tree(root, 7, 0));
    refusedBut("tree, what", 1, OUTSIDE, (x, what) -> x.tree(0, 7, what));
    GlossedBooks x = some();
    for (int set : new int[] {0, 2, 6, 8, 9, 15, 1025, -1, MIN, MIN + 1, MAX}) {
      due("set " + set, x.tree(0, set, 0), UNKNOWN);
    }
    due("the sum", x.tree(0, 7, 0), 4);
    due("astray", x.tree(0, 7, 1), 1);
    due("alone", x.tree(2, 4, 0), 0);
    due("alone", x.tree(2, 4, 1), 0);
  }

  private static void promiseTwentySeven() {
    sentence("WORDS by which w is EXPLAINED: the SET. UNKNOWN, OUTSIDE.");
    refusedBut("explained in", 2, UNKNOWN, (x, b) -> x.explained(b, 0));
    refusedBut("explained", 63, OUTSIDE, (x, w) -> x.explained(0, w));
    GlossedBooks x = library("[1|a2|a3]");
    due("two", x.explained(0, 1), 12);
    due("none", x.explained(0, 2), 0);
    x.amend(0, 0, 63);
    due("behind amend", x.explained(0, 63), 12);
    x.lift(0, 0);
    due("behind lift", x.explained(0, 63), 8);
  }

  private static void promiseTwentyEight() {
    sentence("STEPS from w to v (1 or more); NONE. UNKNOWN, OUTSIDE.");
    refusedBut("steps in", 2, UNKNOWN, (x, b) -> x.steps(b, 0, 0));
    refusedBut("steps from", 63, OUTSIDE, (x, w) -> x.steps(0, w, 0));
    refusedBut("steps to", 63, OUTSIDE, (x, v) -> x.steps(0, 0, v));
    GlossedBooks x = library("[63|a0][0|a63]5");
    due("one", x.steps(0, 63, 0), 1);
    due("to itself", x.steps(0, 63, 63), 2);
    due("never 0", x.steps(0, 5, 5), NONE);
  }

  private static void promiseTwentyNine() {
    sentence("ROUND WORDS: the SET. UNKNOWN.");
    refusedBut("round in", 2, UNKNOWN, (x, b) -> x.round(b));
    GlossedBooks x = library("[62|a63][63|a62]");
    due("two", x.round(0), 3L << 62);
    x.lift(0, 1);
    due("behind lift", x.round(0), 0);
  }

  // ---- the words of the document

  private static void lookUpSentences() throws IOException {
    if (!Files.exists(DOCUMENT)) {
      System.out.println("there is no " + DOCUMENT + ": the sentences were not looked up");
      return;
    }
    String document = Files.readString(DOCUMENT);
    int from = document.indexOf("## Terms");
    int to = document.indexOf("## Not promised");
    String left = from < 0 || to < from ? "" : document.substring(from, to);
    left = left.replaceAll("(?m)^##.*$|^======== \\d|^```.*$|^Ahead of the calls.*$|`[^`\\n]*`:", " | ");
    left = left.replaceAll("\\s+", " ");
    for (String words : SENTENCES) {
      checks++;
      if (!left.contains(words)) {
        wrong++;
        System.out.println("the document does not say: " + words);
      }
    }
    for (String words : SENTENCES) {
      left = left.replace(words, " ");
    }
    left = left.replaceAll("\\b(for|skip|turn|into|drop|move):", "");
    checks++;
    if (left.matches("(?s).*[A-Za-z].*")) {
      wrong++;
      System.out.println("words of the document without a test: " + left.replaceAll("[| ]{2,}", " | "));
    }
  }

  private static void terms() {
    numbersFromNought();
    sets();
    none();
    orderOfRefusals();
    refusedChangesNothing();
    wordsAreNoughtTo63();
    sizesOfBooks();
    spans();
    kinds();
    hosts();
    depths();
    textsOf320();
    grammarOfBooks();
    numbersOfGlosses();
    numbersAndBlanks();
    firstFault();
    faultOne();
    faultTwo();
    faultThree();
    faultFour();
    faultFive();
    textOfNone();
    asPrinted();
  }

  private static void termsOfHands() {
    sizesOfHands();
    grammarOfHands();
    eachClauseOnce();
    boundsOfHabits();
    eachChance();
    lettersOfHands();
    faultsOfHands();
    orderOfHabits();
    chancesAnew();
    copiedFor();
    copiedSkip();
    copiedSkipSpans();
    copiedTurn();
    copiedInto();
    copiedIntoTaken();
    spanWithoutGlosses();
    copiedDrop();
    copiedMove();
    numbersAnew();
  }

  private static void termsOfBooksBeside() {
    besideOneAnother();
    firstOfLikeOnes();
    slippedGlosses();
    readings();
    mostHave();
    restoredText();
    groupsOfTwo();
    orderOfGroups();
    clashes();
    soundGroups();
    leastTree();
    astrays();
    explainedWords();
    stepsBetween();
    roundWords();
  }

  private static void promises() {
    promiseOne();
    promiseTwo();
    promiseThree();
    promiseFour();
    promiseFive();
    promiseSix();
    promiseSeven();
    promiseEight();
    promiseNine();
    promiseTen();
    promiseEleven();
    promiseTwelve();
    promiseThirteen();
    promiseFourteen();
    promiseFifteen();
    promiseSixteen();
    promiseSeventeen();
    promiseEighteen();
    promiseNineteen();
    promiseTwenty();
    promiseTwentyOne();
    promiseTwentyTwo();
    promiseTwentyThree();
    promiseTwentyFour();
    promiseTwentyFive();
    promiseTwentySix();
    promiseTwentySeven();
    promiseTwentyEight();
    promiseTwentyNine();
  }

  public static void main(String[] args) throws IOException {
    terms();
    termsOfHands();
    termsOfBooksBeside();
    promises();
    mustHaveTested();
    lookUpSentences();
    System.out.println(SENTENCES.size() + " sentences, " + checks + " answers looked at, " + wrong + " not as due");
    if (wrong != 0) {
      System.exit(1);
    }
  }
}
