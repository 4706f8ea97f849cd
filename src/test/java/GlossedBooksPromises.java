/** For each promise of the document: ordinary inputs, the edges that it names, and wrong inputs. */
public final class GlossedBooksPromises {
  private static final int NONE = -1, UNKNOWN = -1001, OUTSIDE = -1002, NOT = -1003, FULL = -1004;
  private static int wrong = 0;
  private static int checks = 0;

  private static void due(String what, long got, long want) {
    checks++;
    if (got != want) {
      wrong++;
      System.out.println(what + " answered " + got + ", due is " + want);
    }
  }

  private static void due(String what, String got, String want) {
    checks++;
    if (!got.equals(want)) {
      wrong++;
      System.out.println(what + " answered '" + got + "', due is '" + want + "'");
    }
  }

  // ---- helpers

  private static void tell(GlossedBooks x, String text) {
    for (int at = 0; at < text.length(); at += 8) {
      int n = Math.min(8, text.length() - at);
      long bytes = 0;
      for (int k = 0; k < n; k++) {
        bytes = bytes << 8 | text.charAt(at + k);
      }
      x.feed(n, bytes);
    }
  }

  private static int book(GlossedBooks x, String text) {
    tell(x, text);
    return x.book();
  }

  private static int hand(GlossedBooks x, int h, String text) {
    tell(x, text);
    return x.hand(h);
  }

  private static String printed(GlossedBooks x, int b) {
    StringBuilder text = new StringBuilder();
    int n = x.print(b, NONE);
    for (int i = 0; i < n; i++) {
      text.append((char) x.print(b, i));
    }
    return text.toString();
  }

  private static String words(int n, String word) {
    StringBuilder text = new StringBuilder();
    for (int i = 0; i < n; i++) {
      text.append(i == 0 ? "" : " ").append(word);
    }
    return text.toString();
  }

  /** What a hand with these habits makes of a book. */
  private static String copied(String text, String habits) {
    GlossedBooks x = new GlossedBooks();
    due("book " + text, book(x, text), 0);
    due("hand " + habits, hand(x, 0, habits) >= 0 ? 1 : 0, 1);
    due("copy", x.copy(0, 0), 1);
    return printed(x, 1) + " " + counts(x);
  }

  /** Of book 1: taken/chances of each habit that had a chance. */
  private static String counts(GlossedBooks x) {
    StringBuilder text = new StringBuilder("{");
    for (int habit = 0; habit < 6; habit++) {
      if (x.taken(1, habit, true) != 0) {
        text.append(habit).append(':').append(x.taken(1, habit, false)).append('/');
        text.append(x.taken(1, habit, true)).append(' ');
      }
    }
    return text.append('}').toString();
  }

  private static void bookFault(String text, int number, int at) {
    GlossedBooks x = new GlossedBooks();
    due("book of '" + text + "'", book(x, text), -10 - number);
    due("its fault", x.fault(), at);
    due("books behind it", x.count(0), 0);
    due("THE TEXT behind it", x.count(1), 0);
  }

  private static void handFault(String text, int number, int at) {
    GlossedBooks x = new GlossedBooks();
    hand(x, 1, "turn 7;");
    due("hand of '" + text + "'", hand(x, 1, text), -10 - number);
    due("its fault", x.fault(), at);
    due("THE TEXT behind it", x.count(1), 0);
    due("its habits", x.habit(1, 2), 7);
    due("its skip", x.habit(1, 1), NONE);
  }

  // ---- promises

  private static void newObject() {
    GlossedBooks x = new GlossedBooks();
    for (int what = 0; what < 3; what++) {
      due("count " + what, x.count(what), 0);
    }
    due("fault", x.fault(), NONE);
    for (int h = 0; h < 4; h++) {
      due("for", x.habit(h, 0), 0);
      for (int what = 1; what < 8; what++) {
        due("habit " + what, x.habit(h, what), NONE);
      }
    }
  }

  private static void feed() {
    GlossedBooks x = new GlossedBooks();
    due("feed 0", x.feed(0, 1L), OUTSIDE);
    due("feed 9", x.feed(9, 1L), OUTSIDE);
    due("feed -1", x.feed(-1, 1L), OUTSIDE);
    due("feed 1", x.feed(1, 0x7777777777777731L), 1);
    due("feed 3", x.feed(3, 0x203220L), 4);
    due("count", x.count(1), 4);
    due("book", x.book(), 0);
    due("print", printed(x, 0), "1 2");
    for (int k = 1; k <= 39; k++) {
      due("feed", x.feed(8, 0x2020202020202020L), 8 * k);
    }
    due("feed to 319", x.feed(7, 0x20202020202020L), 319);
    due("feed beyond", x.feed(2, 0x2033L), FULL);
    due("feed wrong and beyond", x.feed(9, 0x2033L), OUTSIDE);
    due("count", x.count(1), 319);
    due("feed to 320", x.feed(1, 0x33L), 320);
    due("feed beyond", x.feed(1, 0x33L), FULL);
    due("book", x.book(), 1);
    due("print", printed(x, 1), "3");
  }

  private static void book() {
    GlossedBooks x = new GlossedBooks();
    due("a text of none", book(x, ""), 0);
    due("its length", x.print(0, NONE), 0);
    due("a text of blanks", book(x, "   "), 1);
    due("blanks all over", book(x, " 07 [ 1 02 | a 3 [4|b 0]5 |b[6|a7] ] 63 "), 2);
    due("printed", printed(x, 2), "7[1 2|a3[4|b0]5|b[6|a7]]63");
    due("printed again", book(x, printed(x, 2)), 3);
    due("and again", printed(x, 3), printed(x, 2));
    due("40 words", book(x, words(40, "63")), 4);
    due("rows", book(x, "[1|a1 2 3 4|b1 2 3 4 5 6 7 8]"), 5);
    due("20 glosses", book(x, "[1" + words(20, "|a2") + "]"), 6);
    due("depth 4", book(x, "[1|a[1|a[1|a[1|a1]]]]"), 7);
    due("depth", x.about(7, 2), 4);
    due("printed", printed(x, 7), "[1|a[1|a[1|a[1|a1]]]]");
    due("one more", book(x, "1"), 8);
    due("one more", book(x, "2"), 9);
    due("a fault ahead", x.fault(), NONE);
    due("the eleventh", book(x, "]"), FULL);
    due("THE TEXT stays", x.count(1), 1);
    due("the fault stays", x.fault(), NONE);
    due("exemplar", x.about(9, 3), NONE);
  }

  private static void bookFaults() {
    bookFault("x", 1, 0);
    bookFault("1,2", 1, 1);
    bookFault("" + (char) 0, 1, 0);
    bookFault("1" + (char) 255, 1, 1);
    bookFault("]", 1, 0);
    bookFault("|", 1, 0);
    bookFault("a", 1, 0);
    bookFault("1|a2", 1, 1);
    bookFault("[]", 1, 1);
    bookFault("[|a1]", 1, 1);
    bookFault("[[1|a2]|a3]", 1, 1);
    bookFault("[1[2|a3]|a3]", 1, 2);
    bookFault("[1]", 1, 2);
    bookFault("[1|1]", 1, 3);
    bookFault("[1|100]", 1, 3);
    bookFault("[1|c1]", 1, 3);
    bookFault("[1|]", 1, 3);
    bookFault("[1|a]", 1, 4);
    bookFault("[1|aa1]", 1, 4);
    bookFault("[1|a|b1]", 1, 4);
    bookFault("[1|a1", 1, 5);
    bookFault("[1|a1  ", 1, 7);
    bookFault("[", 1, 1);
    bookFault("[1", 1, 2);
    bookFault("[1|", 1, 3);
    bookFault("[1|a", 1, 4);
    bookFault("[1|a[2|b3]", 1, 10);
    bookFault("[1|a[2|b3]|a4]5]", 1, 15);
    bookFault("64", 2, 0);
    bookFault("1 99", 2, 2);
    bookFault("001", 2, 0);
    bookFault("1 4294967297", 2, 2);
    bookFault("[1|a2[64|a3]]", 2, 6);
    bookFault("100 x", 2, 0);
    bookFault(words(40, "1") + " 2", 3, 80);
    bookFault(words(40, "1") + " 64", 2, 80);
    bookFault(words(40, "1") + "[2|a3]", 3, 80);
    bookFault(words(39, "1") + "[2 3|a3]", 3, 80);
    bookFault(words(40, "1") + "[]", 1, 80);
    bookFault("[1|a1 2 3 4 5]", 3, 12);
    bookFault("[1|a1 2 3 [4 5|b1]]", 3, 13);
    bookFault("[1|b1 2 3 4 5 6 7 8 9]", 3, 20);
    bookFault("[1" + words(21, "|a2") + "]", 4, 2 + 20 * 4);
    bookFault("1[1|a[2|a[3|a[4|a[5|a6]]]]]", 5, 19);
    String nineteen = "[1" + words(16, "|a2") + "]";
    bookFault(nineteen + "[1|a[2|a[3|a[4|a[5|a6]]]]]", 4, nineteen.length() + 18);
  }

  private static void hand() {
    GlossedBooks x = new GlossedBooks();
    due("a hand of none", x.hand(0), 0);
    due("all clauses", hand(x, 3, "move 1;drop 2;into instead 3;turn 4;skip 5 6;for 1 2 7; for 0 63 99 ;"
        + "for3 4 5;for 4 3 6;"), 9);
    int[] want = {4, 6, 4, 3, 2, 1, 5, 2};
    for (int what = 0; what < 8; what++) {
      due("habit " + what, x.habit(3, what), want[what]);
    }
    due("blanks", hand(x, 3, "  into ahead01;  "), 1);
    due("for is gone", x.habit(3, 0), 0);
    due("into", x.habit(3, 3), 1);
    due("way", x.habit(3, 7), 0);
    due("skip is gone", x.habit(3, 6), NONE);
    due("behind", hand(x, 3, "into behind 2;"), 1);
    due("way", x.habit(3, 7), 1);
    due("none", hand(x, 3, ""), 0);
    due("way", x.habit(3, 7), NONE);
    tell(x, words(80, "1") + " ");
    due("160 bytes, wrong ones", x.hand(0), -11);
    due("fault", x.fault(), 0);
    tell(x, "turn 3;" + " ".repeat(153));
    due("160 bytes", x.hand(0), 1);
    due("fault", x.fault(), NONE);
    tell(x, "turn 4;" + " ".repeat(154));
    due("161 bytes", x.hand(0), OUTSIDE);
    due("161 bytes, no hand", x.hand(4), UNKNOWN);
    due("no hand", x.hand(-1), UNKNOWN);
    due("THE TEXT stays", x.count(1), 161);
    due("habits stay", x.habit(0, 2), 3);
    due("fault stays", x.fault(), NONE);
  }

  private static void handFaults() {
    handFault(";", 1, 0);
    handFault("1", 1, 0);
    handFault("100", 1, 0);
    handFault("skipp 1 1;", 1, 0);
    handFault("ski 1 1;", 1, 0);
    handFault("skipz 1 1;", 1, 0);
    handFault("sk ip 1 1;", 1, 0);
    handFault("Skip 1 1;", 1, 0);
    handFault("skipS", 1, 4);
    handFault("ahead 1;", 1, 0);
    handFault("skip 1 1;;", 1, 9);
    handFault("skip 1 1 1;", 1, 9);
    handFault("skip 1;", 1, 6);
    handFault("skip;", 1, 4);
    handFault("skip 1 skip", 1, 7);
    handFault("skip 1 1", 1, 8);
    handFault("skip 1 1  ", 1, 10);
    handFault("skip 1 1 turn 1;", 1, 9);
    handFault("into 1;", 1, 5);
    handFault("into aheadbehind 1;", 1, 5);
    handFault("into ahead behind 1;", 1, 11);
    handFault("into instea 1;", 1, 5);
    handFault("turn x;", 1, 5);
    handFault("turn" + (char) 200, 1, 4);
    handFault("skip 0 1;", 2, 5);
    handFault("skip 21 1;", 2, 5);
    handFault("skip 20 0;", 2, 8);
    handFault("skip 20 100;", 2, 8);
    handFault("turn 001;", 2, 5);
    handFault("move 0;", 2, 5);
    handFault("drop 00;", 2, 5);
    handFault("into ahead 0;", 2, 11);
    handFault("for 64 1 1;", 2, 4);
    handFault("for 1 64 1;", 2, 6);
    handFault("for 1 2 0;", 2, 8);
    handFault("turn 1; turn 2;", 3, 8);
    handFault("turn 1; turn", 3, 8);
    handFault("skip 1 1;skip 1 1;", 3, 9);
    handFault("into ahead 1;into behind 1;", 3, 13);
    handFault("drop 1;drop 1;", 3, 7);
    handFault("move 1;move 1;", 3, 7);
    handFault("for 1 2 3;for 2 1 3;for 3 1 1;for 4 1 1;for 5 1 1;", 3, 40);
    handFault("for 1 2 3;for 1 3 3;", 3, 14);
    handFault("for 1 2 3;for 01 64 3;", 3, 14);
    handFault("for 1 1 3;", 3, 6);
    handFault("for 1 01 3;", 3, 6);
  }

  private static void faultAndHabit() {
    GlossedBooks x = new GlossedBooks();
    book(x, "1 64");
    due("of a book", x.fault(), 2);
    due("again", x.fault(), 2);
    x.hand(9);
    due("a refused hand", x.fault(), 2);
    hand(x, 0, "turn 1;");
    due("of a good hand", x.fault(), NONE);
    hand(x, 0, "turn");
    due("of a hand", x.fault(), 4);
    book(x, "1");
    due("of a good book", x.fault(), NONE);
    due("habit", x.habit(-1, 0), UNKNOWN);
    due("habit", x.habit(4, 9), UNKNOWN);
    due("habit", x.habit(0, -1), OUTSIDE);
    due("habit", x.habit(0, 8), OUTSIDE);
    due("habit", x.habit(0, 2), 1);
  }

  private static void copyFor() {
    due("each", copied("1 2[1|a1 3]1", "for 1 2 1;"), "2 2[2|a2 3]2 {0:4/4 }");
    due("at once", copied("1 2 1 2", "for 1 2 1;for 2 1 1;"), "2 1 2 1 {0:4/4 }");
    due("each second", copied("1[1|a1[1|b1]]1", "for 1 5 2;"), "1[5|a5[1|b5]]1 {0:3/6 }");
    due("each for on its own", copied("1 2 1 2 1 2", "for 1 7 2;for 2 8 3;"), "1 2 7 2 1 8 {0:2/6 }");
    due("rows behind the text", copied("[3|a1]1", "for 1 2 2;"), "[3|a2]1 {0:1/2 }");
    due("no chance", copied("3 4", "for 1 2 1;"), "3 4 {}");
  }

  private static void copySkip() {
    due("to the like", copied("1 2 3 1 4", "skip 3 1;"), "1 4 {1:1/1 }");
    due("not so far", copied("1 2 3 1 4", "skip 2 1;"), "1 2 3 1 4 {}");
    due("again", copied("1 1 1 1", "skip 1 1;"), "1 {1:3/3 }");
    due("each second", copied("1 1 1 1 1", "skip 1 2;"), "1 1 1 {1:2/4 }");
    due("first like", copied("1 2 1 3 1 4", "skip 20 2;"), "1 2 1 4 {1:1/2 }");
    due("tail of a lemma", copied("1[2 1 3|a9]4", "skip 5 1;"), "1[3|a9]4 {1:1/1 }");
    due("head stays", copied("[5 1|a9]3[1 6|b8]", "skip 5 1;"), "[5 1|a9][6|b8] {1:1/1 }");
    due("middle of a lemma", copied("[1 2 1 4|a9]", "skip 5 1;"), "[1 4|a9] {1:1/1 }");
    due("rows stay", copied("1 2 1[3|a4 5[6|b7]]", "skip 5 1;"), "1[3|a4 5[6|b7]] {1:1/1 }");
    due("a span goes", copied("1[2|a3[4|b5]|b6]1[7|a8]", "skip 5 1;"), "1[7|a8] {1:1/1 }");
    due("those gone are no chance", copied("1[2|a3[4|b5]|b6]1[7|a8]", "skip 5 1;drop 1;"), "1 7 {1:1/1 4:1/1 }");
  }

  private static void copyTurn() {
    due("each", copied("1 2 3 4 5", "turn 1;"), "2 1 4 3 5 {2:2/2 }");
    due("each second", copied("1 2 3 4 5", "turn 2;"), "1 3 2 4 5 {2:1/3 }");
    due("like ones", copied("1 1 2", "turn 1;"), "1 2 1 {2:1/1 }");
    due("spans", copied("1[2|a3]4 5[6|b7]", "turn 1;"), "1[2|a3]5 4[6|b7] {2:1/1 }");
    due("one word", copied("1", "turn 1;"), "1 {}");
    due("behind a span gone", copied("1[2|a3]1 4", "skip 9 1;turn 1;"), "4 1 {1:1/1 2:1/1 }");
  }

  private static void copyInto() {
    due("ahead", copied("1[2 3|a4 5[6|b7]]8", "into ahead 1;"), "1 4 5 6 2 3 8 {3:1/1 }");
    due("ahead, others stay", copied("1[2|a4|b5]8[9|b1]", "into ahead 1;"), "1 4[2|b5]8[9|b1] {3:1/1 }");
    due("behind", copied("1[2 3|a4 5|b9]8[9|b1]", "into behind 1;"), "1[2 3|b9]4 5 8[9|b1] {3:1/1 }");
    due("ahead of all", copied("[1|a2 3]4", "into ahead 1;"), "2 3 1 4 {3:1/1 }");
    due("two behind", copied("1[2|a4|a5]8", "into behind 1;"), "1 2 5 4 8 {3:2/2 }");
    due("two ahead", copied("1[2|a4|a5]8", "into ahead 1;"), "1 4 5 2 8 {3:2/2 }");
    due("instead", copied("1[2 3|a4]8[9|b1]", "into instead 1;"), "1 4 8[9|b1] {3:1/1 }");
    due("instead, others stay", copied("1[2|a4 5|b6]8[9|b1]", "into instead 1;"), "1[4 5|b6]8[9|b1] {3:1/1 }");
    due("instead, twice", copied("1[2|a4 5|a6|b7]8", "into instead 1;"), "1[6|b7]8 {3:2/2 }");
    due("each second", copied("[1|a2][3|a4][5|a6]", "into ahead 2;"), "[1|a2]4 3[5|a6] {3:1/3 }");
    due("those on rows not", copied("[1|b2[3|a4]]", "into ahead 1;"), "[1|b2[3|a4]] {}");
    due("40 words", copied(words(38, "0") + "[1|a2]", "into ahead 1;"), words(38, "0") + " 2 1 {3:1/1 }");
    due("beyond 40", copied(words(38, "0") + "[1|a2 3 4|a5]", "into ahead 1;"), words(38, "0") + " 5[1|a2 3 4] {3:1/1 }");
    due("full", copied(words(39, "0") + "[1|a2]", "into behind 1;"), words(39, "0") + "[1|a2] {}");
    due("full, instead", copied(words(38, "0") + "[1 1|a2 3|a4 5 6|a7]", "into instead 1;"), words(38, "0") + "[7|a4 5 6] {3:2/2 }");
    due("turned ahead of it", copied("1 2[3|a4]", "turn 1;into ahead 1;"), "2 1 4 3 {2:1/1 3:1/1 }");
  }

  private static void copyDropAndMove() {
    due("drop", copied("[1|a2[3|b4]|b5]", "drop 1;"), "1 {4:2/2 }");
    due("each second", copied("[1|a2[3|b4]|b5]6[7|a8]", "drop 2;"), "[1|a2 3|b5]6 7 {4:2/4 }");
    due("those gone", copied("[1|a2[3|b4]][5|a6][7|a8]", "drop 1;"), "1 5 7 {4:3/3 }");
    due("move", copied("[1|b2]3 4", "move 1;"), "1[3|b2]4 {5:1/1 }");
    due("one above", copied("[1|a2]3", "move 1;"), "[1|a2]3 {}");
    due("not the only one", copied("[1|b2|b4]3", "move 1;"), "[1|b2|b4]3 {}");
    due("two words", copied("[1 2|b2]3", "move 1;"), "[1 2|b2]3 {}");
    due("at the end", copied("3[1|b2]", "move 1;"), "3[1|b2] {}");
    due("a span behind", copied("[1|b2][3|b4]5", "move 1;"), "[1|b2]3[5|b4] {5:1/1 }");
    due("each second", copied("[1|b2]3[4|b5]6", "move 2;"), "[1|b2]3 4[6|b5] {5:1/2 }");
    due("the only one behind drop", copied("[1|a2|b3]4", "into behind 1;move 1;"), "1[2|b3]4 {3:1/1 5:1/1 }");
    due("on a row", copied("[1|a[2|b3]4]", "move 1;"), "[1|a[2|b3]4] {}");
    due("into a span left", copied("[1|b2][3|a4]", "drop 2;move 1;"), "1[3|b2] {4:1/2 5:1/1 }");
  }

  private static void copy() {
    GlossedBooks x = new GlossedBooks();
    due("no book", x.copy(0, 0), UNKNOWN);
    book(x, "[1|a2]3");
    due("no hand", x.copy(0, 4), UNKNOWN);
    due("no hand", x.copy(0, -1), UNKNOWN);
    due("no book", x.copy(-1, 0), UNKNOWN);
    due("no book", x.copy(1, 0), UNKNOWN);
    due("copy", x.copy(0, 3), 1);
    due("like", printed(x, 1), "[1|a2]3");
    x.amend(0, 0, 9);
    due("on its own", printed(x, 1), "[1|a2]3");
    due("of a copy", x.copy(1, 0), 2);
    for (int b = 3; b < 10; b++) {
      due("copy", x.copy(2, 0), b);
    }
    due("the eleventh", x.copy(0, 0), FULL);
    due("the eleventh, no hand", x.copy(0, 4), UNKNOWN);
    due("copies", x.count(2), 9);
    hand(x, 0, "turn 1;");
    due("made without turn", x.taken(1, 2, true), 0);
    due("taken", x.taken(10, 2, true), UNKNOWN);
    due("taken", x.taken(-1, 9, true), UNKNOWN);
    due("taken", x.taken(1, 6, true), OUTSIDE);
    due("taken", x.taken(1, -1, false), OUTSIDE);
    due("taken", x.taken(0, 6, false), OUTSIDE);
    due("taken", x.taken(0, 0, false), NOT);
  }

  private static void amendAndLift() {
    GlossedBooks x = new GlossedBooks();
    due("amend", x.amend(0, 0, 0), UNKNOWN);
    book(x, "1[2|a3[4|b5]|b6]7[8|a9]");
    due("amend", x.amend(1, 0, 0), UNKNOWN);
    due("amend", x.amend(0, 4, 0), OUTSIDE);
    due("amend", x.amend(0, -1, 0), OUTSIDE);
    due("amend", x.amend(0, 0, 64), OUTSIDE);
    due("amend", x.amend(0, 0, -1), OUTSIDE);
    due("amend", x.amend(0, 3, 63), 8);
    due("amend", x.amend(0, 3, 0), 63);
    due("print", printed(x, 0), "1[2|a3[4|b5]|b6]7[0|a9]");
    due("lift", x.lift(1, 0), UNKNOWN);
    due("lift", x.lift(0, 4), UNKNOWN);
    due("lift", x.lift(0, -1), UNKNOWN);
    due("lift", x.lift(0, 0), 2);
    due("print", printed(x, 0), "1[2|b6]7[0|a9]");
    due("gloss 1", x.gloss(0, 1, 2), 3);
    due("lift", x.lift(0, 1), 1);
    due("print", printed(x, 0), "1[2|b6]7 0");
    due("lift", x.lift(0, 0), 1);
    due("lift", x.lift(0, 0), UNKNOWN);
    book(x, "[1|a2]3[4|b5[6|a7[8|a9]]]");
    due("lift", x.lift(1, 0), 1);
    due("host", x.gloss(1, 1, 1), 0);
    due("host", x.gloss(1, 2, 1), 1);
    due("depth", x.gloss(1, 2, 5), 3);
    due("print", printed(x, 1), "1 3[4|b5[6|a7[8|a9]]]");
  }

  private static void print() {
    GlossedBooks x = new GlossedBooks();
    due("print", x.print(0, NONE), UNKNOWN);
    book(x, "01 [ 10 | b 2 ] 3");
    due("print", x.print(0, NONE), 9);
    due("print", printed(x, 0), "1[10|b2]3");
    due("print", x.print(0, 9), NONE);
    due("print", x.print(0, -2), NONE);
    due("print", x.print(0, Integer.MAX_VALUE), NONE);
    due("print", x.print(0, Integer.MIN_VALUE), NONE);
    due("print", x.print(1, 0), UNKNOWN);
    hand(x, 0, "for 1 63 1;");
    String text = "[1" + "|b1 1 1 1 1".repeat(20) + "]" + words(39, "1");
    book(x, text);
    x.copy(1, 0);
    due("a long one", x.print(2, NONE), 4 + 20 * 16 + 39 * 3 - 1);
    for (int i : new int[] {0, 1, 2, 3, 300, 322, 323, 324, 325, 438, 439}) {
      due("a long one", x.print(2, i), text.replace("1", "63").charAt(i));
    }
    due("word", x.word(2, 39), 63);
    due("word", x.word(2, 40), NONE);
    due("word", x.word(2, -1), NONE);
    due("word", x.word(0, Integer.MIN_VALUE), NONE);
    due("word", x.word(3, 0), UNKNOWN);
    due("word", x.word(-1, 0), UNKNOWN);
  }

  private static void aboutAndGloss() {
    GlossedBooks x = new GlossedBooks();
    book(x, "1[2 3|a4[5|b6 7]|b8]9[1|a2[3|b4[5|b6]]]");
    book(x, "");
    x.copy(0, 2);
    int[][] want = {{5, 6, 3, NONE, NONE, 5, 2, 10}, {0, 0, 0, NONE, NONE, 0, 0, 0}, {5, 6, 3, 0, 2, 5, 2, 10}};
    for (int b = 0; b < 3; b++) {
      for (int what = 0; what < 8; what++) {
        due("about " + b + " " + what, x.about(b, what), want[b][what]);
      }
    }
    due("about", x.about(0, 8), OUTSIDE);
    due("about", x.about(0, -1), OUTSIDE);
    due("about", x.about(3, 8), UNKNOWN);
    due("about", x.about(-1, 0), UNKNOWN);
    int[][] glosses = {{0, NONE, 1, 2, 2, 1, 0, 4, 5, NONE}, {1, 0, 1, 1, 2, 2, 0, 6, 7, NONE},
      {1, NONE, 1, 2, 1, 1, 1, 8, NONE, NONE}, {0, NONE, 4, 4, 2, 1, 0, 2, 3, NONE},
      {1, 3, 1, 1, 2, 2, 0, 4, 5, NONE}, {1, 4, 1, 1, 1, 3, 0, 6, NONE, NONE}};
    for (int g = 0; g < glosses.length; g++) {
      for (int what = 0; what < 10; what++) {
        due("gloss " + g + " " + what, x.gloss(2, g, what), glosses[g][what]);
      }
    }
    due("gloss", x.gloss(0, 0, 14), NONE);
    due("gloss", x.gloss(0, 0, 15), OUTSIDE);
    due("gloss", x.gloss(0, 0, -1), OUTSIDE);
    due("gloss", x.gloss(0, 6, -1), UNKNOWN);
    due("gloss", x.gloss(0, -1, 0), UNKNOWN);
    due("gloss", x.gloss(1, 0, 0), UNKNOWN);
    due("gloss", x.gloss(9, 0, 0), UNKNOWN);
    book(x, "[1|b1 2 3 4 5 6 7 8]");
    due("gloss", x.gloss(3, 0, 14), 8);
    due("count", x.count(0), 4);
    due("count", x.count(1), 0);
    due("count", x.count(2), 1);
    due("count", x.count(3), OUTSIDE);
    due("count", x.count(-1), OUTSIDE);
  }

  private static String besides(GlossedBooks x, int a, int b) {
    StringBuilder text = new StringBuilder();
    for (int i = 0; i < x.about(a, 0); i++) {
      int place = x.beside(a, b, i);
      text.append(place == NONE ? "-" : "" + place).append(' ');
    }
    return text.toString() + x.distance(a, b);
  }

  private static void besides(String a, String b, String want) {
    GlossedBooks x = new GlossedBooks();
    book(x, a);
    book(x, b);
    due(a + " beside " + b, besides(x, 0, 1), want);
    due("the other way round", x.distance(1, 0), x.distance(0, 1));
  }

  private static void beside() {
    besides("1 2 3", "1 2 3", "0 1 2 0");
    besides("1 2 3", "", "- - - 3");
    besides("", "1 2", "2");
    besides("1 2 3", "1 3", "0 - 1 1");
    besides("1 3", "1 2 3", "0 2 1");
    besides("1 1", "1", "0 - 1");
    besides("1 2", "3", "0 - 2");
    besides("3", "1 2", "0 2");
    besides("1 2", "2 1", "0 1 2");
    besides("1 2 3 4", "2 3 4 1", "- 0 1 2 2");
    besides("5 1 2", "1 2 6", "- 0 1 2");
    besides("1 2 6", "5 1 2", "1 2 - 2");
    besides("[1|a9]2", "1[2|b8]", "0 1 0");
    GlossedBooks x = new GlossedBooks();
    book(x, "1 2");
    book(x, words(40, "3"));
    due("distance", x.distance(0, 2), UNKNOWN);
    due("distance", x.distance(-1, 0), UNKNOWN);
    due("distance", x.distance(0, 1), 40);
    due("distance", x.distance(1, 1), 0);
    due("beside", x.beside(0, 2, 5), UNKNOWN);
    due("beside", x.beside(2, 0, 0), UNKNOWN);
    due("beside", x.beside(0, 1, 2), OUTSIDE);
    due("beside", x.beside(0, 1, -1), OUTSIDE);
    due("beside", x.beside(1, 1, 39), 39);
    book(x, words(39, "4") + " 3");
    due("40 beside 40", x.distance(1, 2), 39);
    due("beside", x.beside(1, 2, 38), 38);
    due("beside", x.beside(1, 2, 39), 39);
  }

  private static void slips(String a, String b, int want) {
    GlossedBooks x = new GlossedBooks();
    book(x, a);
    book(x, b);
    due(b + " slipped from " + a, x.slipped(0, 1), want);
  }

  private static void slipped() {
    slips("1[2|a3]4", "1 3 2 4", 1);
    slips("1[2|a3]4", "1 2 3 4", 1);
    slips("1[2|b3 5]4", "1 2 3 5 4", 1);
    slips("1[2|a3 5]4", "1 2 3 4", 0);
    slips("1[2 6|a3]4", "1 2 3 6 4", 0);
    slips("1[2 6|a3]4", "1 2 6 3 4", 1);
    slips("1[2|a3[5|b9]|b6]4", "1 3 5 2 9 6 4", 1);
    slips("1[2|a3[5|b9]|b6]4", "1 3 5 2 6 4", 5);
    slips("1[2|a3]4", "1 3 4", 0);
    slips("1[2|a3]4", "1 2 4", 0);
    slips("[2|a3]4", "3 2 4", 1);
    slips("4[2|a3]", "4 2 3", 1);
    slips("1[2|a3 3]4", "1 3 2 3 4", 0);
    GlossedBooks x = new GlossedBooks();
    due("slipped", x.slipped(0, 0), UNKNOWN);
    book(x, "[1|a1]");
    due("slipped", x.slipped(0, 0), 0);
    due("slipped", x.slipped(0, 1), UNKNOWN);
    due("slipped", x.slipped(-1, 0), UNKNOWN);
  }

  private static void witnesses() {
    GlossedBooks x = new GlossedBooks();
    book(x, "1 2 3 4");
    book(x, "1 5 3 4");
    book(x, "1 5 4");
    book(x, "1 6 4");
    book(x, "7 6 3 8");
    book(x, "7 2 3 8");
    due("reading", x.reading(0, 1, 1), 5);
    due("reading", x.reading(0, 2, 2), NONE);
    due("reading", x.reading(0, 0, 3), 4);
    due("reading", x.reading(0, 6, 9), UNKNOWN);
    due("reading", x.reading(6, 0, 0), UNKNOWN);
    due("reading", x.reading(0, 1, 4), OUTSIDE);
    due("reading", x.reading(0, 1, -1), OUTSIDE);
    due("most, alone", x.most(0, 0, 1, 0), 2);
    due("most, alone", x.most(0, 0, 1, 1), 1);
    due("most, base in the set", x.most(0, 1, 1, 1), 1);
    due("most, base of like ones", x.most(0, 2, 1, 0), 2);
    due("most, more", x.most(0, 6, 1, 0), 5);
    due("most, how many", x.most(0, 6, 1, 1), 2);
    due("most, least of like ones", x.most(0, 30, 1, 0), 5);
    due("most, base of like ones", x.most(0, 62, 1, 0), 2);
    due("most, none", x.most(1, 12, 2, 0), NONE);
    due("most, none", x.most(1, 12, 2, 1), 2);
    due("most", x.most(0, 64, 0, 0), UNKNOWN);
    due("most", x.most(0, -1, 0, 0), UNKNOWN);
    due("most", x.most(6, 1, 0, 0), UNKNOWN);
    due("most", x.most(0, 64, 9, 9), UNKNOWN);
    due("most", x.most(0, 1, 4, 0), OUTSIDE);
    due("most", x.most(0, 1, -1, 0), OUTSIDE);
    due("most", x.most(0, 1, 0, 2), OUTSIDE);
    due("most", x.most(0, 1, 0, -1), OUTSIDE);
    due("restored", x.restored(0, 12, NONE), 3);
    due("restored", x.restored(0, 12, 0), 1);
    due("restored", x.restored(0, 12, 1), 2);
    due("restored", x.restored(0, 12, 2), 4);
    due("restored", x.restored(0, 12, 3), NONE);
    due("restored", x.restored(0, 12, -2), NONE);
    due("restored", x.restored(0, 64, 0), UNKNOWN);
    due("restored", x.restored(-1, 0, 0), UNKNOWN);
  }

  private static void groups() {
    GlossedBooks x = new GlossedBooks();
    book(x, "1 2 3 4");
    book(x, "1 5 3 4");
    book(x, "1 5 4");
    book(x, "1 6 4");
    book(x, "7 6 3 8");
    book(x, "7 2 3 8");
    int[] want = {48, 6, 24, 12};
    due("groups", x.group(0, 63, NONE), 4);
    for (int i = 0; i < want.length; i++) {
      due("group " + i, x.group(0, 63, i), want[i]);
    }
    due("group", x.group(0, 63, 4), NONE);
    due("group", x.group(0, 63, -2), NONE);
    due("group, base left out", x.group(0, 62, NONE), 4);
    due("group, less", x.group(0, 30, NONE), 3);
    due("group", x.group(0, 127, 0), UNKNOWN);
    due("group", x.group(0, Integer.MIN_VALUE, 0), UNKNOWN);
    due("group", x.group(6, 0, 0), UNKNOWN);
    due("clash", x.clash(0, 63), 3);
    due("clash", x.clash(0, 14), 1);
    due("clash", x.clash(0, 6), 0);
    due("clash", x.clash(0, 64), UNKNOWN);
    due("clash", x.clash(-1, 0), UNKNOWN);
    due("sound", x.sound(0, 63, NONE), 0);
    due("sound", x.sound(0, 63, 0), NONE);
    due("sound", x.sound(0, 0b110110, NONE), 2);
    due("sound", x.sound(0, 0b110110, 0), 48);
    due("sound", x.sound(0, 0b110110, 1), 6);
    due("sound", x.sound(0, 0b110110, 2), NONE);
    due("sound", x.sound(0, 64, 0), UNKNOWN);
    due("sound", x.sound(6, 0, 0), UNKNOWN);
    GlossedBooks y = new GlossedBooks();
    book(y, "1 2");
    book(y, "1");
    book(y, "1");
    book(y, "1 0");
    book(y, "1 0");
    due("NONE first", y.group(0, 30, 0), 6);
    due("then 0", y.group(0, 30, 1), 24);
    due("how many", y.group(0, 30, NONE), 2);
    book(y, "1 63");
    book(y, "1 63");
    book(y, "1 63");
    due("63 last", y.group(0, 254, 2), 32 + 64 + 128);
    due("most", y.most(0, 254, 1, 0), 63);
  }

  private static void trees() {
    GlossedBooks x = new GlossedBooks();
    book(x, "1 2 3 4 5 6");
    hand(x, 0, "for 1 9 1;");
    hand(x, 1, "for 6 9 1;");
    x.copy(0, 0);
    x.copy(1, 1);
    x.copy(0, 1);
    due("distance", x.distance(0, 2), 2);
    due("parent", x.parent(0, 15, 1), 0);
    due("parent, least of like ones", x.parent(0, 15, 2), 1);
    due("parent", x.parent(0, 15, 3), 0);
    due("parent of the root", x.parent(0, 15, 0), NONE);
    due("parent from elsewhere", x.parent(2, 15, 0), 1);
    due("parent from elsewhere", x.parent(2, 15, 3), 0);
    due("parent", x.parent(2, 13, 3), 2);
    due("tree", x.tree(0, 15, 0), 3);
    due("astray", x.tree(0, 15, 1), 0);
    due("astray from elsewhere", x.tree(2, 15, 1), 2);
    due("alone", x.tree(2, 4, 0), 0);
    due("alone", x.tree(2, 4, 1), 0);
    due("parent", x.parent(0, 16, 0), UNKNOWN);
    due("parent", x.parent(0, 31, 0), UNKNOWN);
    due("parent", x.parent(0, 14, 1), UNKNOWN);
    due("parent", x.parent(0, 7, 3), UNKNOWN);
    due("parent", x.parent(-1, 15, 0), UNKNOWN);
    due("parent", x.parent(0, 15, 32), UNKNOWN);
    due("parent", x.parent(0, -1, 0), UNKNOWN);
    due("tree", x.tree(0, 31, 0), UNKNOWN);
    due("tree", x.tree(0, 14, 2), UNKNOWN);
    due("tree", x.tree(4, 15, 0), UNKNOWN);
    due("tree", x.tree(0, 15, 2), OUTSIDE);
    due("tree", x.tree(0, 15, -1), OUTSIDE);
    x.amend(1, 1, 9);
    due("tree behind amend", x.tree(0, 15, 0), 4);
    due("astray behind amend", x.tree(0, 15, 1), 1);
    due("parent behind amend", x.parent(0, 15, 2), 3);
  }

  private static void explained() {
    GlossedBooks x = new GlossedBooks();
    due("explained", x.explained(0, 0), UNKNOWN);
    book(x, "[1|a2|b3 4|a63][2 5|a6][2|b[3|a1]][63|a0]");
    due("explained", x.explained(0, 1), 1L << 63 | 4);
    due("explained, by a row with a span", x.explained(0, 2), 8);
    due("explained on a row", x.explained(0, 3), 2);
    due("explained", x.explained(0, 63), 1);
    due("not explained", x.explained(0, 5), 0);
    due("explained", x.explained(0, 64), OUTSIDE);
    due("explained", x.explained(0, -1), OUTSIDE);
    due("explained", x.explained(1, 64), UNKNOWN);
    due("steps", x.steps(0, 1, 2), 1);
    due("steps", x.steps(0, 1, 3), 2);
    due("steps", x.steps(0, 1, 1), 3);
    due("steps", x.steps(0, 2, 0), 4);
    due("steps", x.steps(0, 0, 0), NONE);
    due("steps", x.steps(0, 63, 1), NONE);
    due("steps", x.steps(0, 64, 0), OUTSIDE);
    due("steps", x.steps(0, 0, 64), OUTSIDE);
    due("steps", x.steps(0, -1, 0), OUTSIDE);
    due("steps", x.steps(0, 0, -1), OUTSIDE);
    due("steps", x.steps(1, 0, -1), UNKNOWN);
    due("round", x.round(0), 14);
    due("round", x.round(1), UNKNOWN);
    due("round", x.round(-1), UNKNOWN);
    x.amend(0, 4, 63);
    due("round behind amend", x.round(0), 14);
    x.amend(0, 4, 0);
    due("round behind amend", x.round(0), 1 | 14);
    book(x, "[63|a63]");
    due("round", x.round(1), 1L << 63);
  }

  /** A book told, copied with a gloss that slips in, and held against its copy. */
  private static void aFirstRun() {
    GlossedBooks books = new GlossedBooks();
    due("feed", books.feed(7, 0x315B327C61335DL), 7);
    due("book", books.book(), 0);
    due("feed", books.feed(8, 0x696E746F20616865L), 8);
    due("feed", books.feed(5, 0x616420313BL), 13);
    due("hand", books.hand(0), 1);
    due("copy", books.copy(0, 0), 1);
    due("print", printed(books, 1), "1 3 2");
    due("distance", books.distance(0, 1), 1);
    due("slipped", books.slipped(0, 1), 1);
  }

  public static void main(String[] args) {
    aFirstRun();
    newObject();
    feed();
    book();
    bookFaults();
    hand();
    handFaults();
    faultAndHabit();
    copyFor();
    copySkip();
    copyTurn();
    copyInto();
    copyDropAndMove();
    copy();
    amendAndLift();
    print();
    aboutAndGloss();
    beside();
    slipped();
    witnesses();
    groups();
    trees();
    explained();
    System.out.println(checks + " answers looked at, " + wrong + " not as due");
    if (wrong != 0) {
      System.exit(1);
    }
  }
}
