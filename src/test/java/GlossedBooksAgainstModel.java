import java.util.ArrayList;
import java.util.HashMap;
import java.util.List;
import java.util.Map;
import java.util.Random;
import java.util.TreeMap;
import java.util.TreeSet;

/**
 * Random runs of calls, from fixed seeds, held against a second writing of the document: books are
 * lists of cells there, each with the span that it is in, so that no place is ever reckoned.
 */
public final class GlossedBooksAgainstModel {
  private static final int NONE = -1, UNKNOWN = -1001, OUTSIDE = -1002, NOT = -1003, FULL = -1004;

  // ---- the model

  private static final class Cell {
    int word;
    Span span;

    Cell(int word, Span span) {
      this.word = word;
      this.span = span;
    }
  }

  private static final class Span {
    final List<Note> notes = new ArrayList<>();
  }

  private static final class Note {
    char kind;
    List<Cell> row = new ArrayList<>();
  }

  /** A gloss with where it is found. */
  private static final class Found {
    Note note;
    Span span;
    List<Cell> cells;
    Found host;
    int number;
    int depth;
  }

  private static final class Volume {
    List<Cell> text = new ArrayList<>();
    int exemplar = NONE;
    int scribe = NONE;
    int[] chances = new int[6];
    int[] takes = new int[6];

    List<Found> glosses() {
      List<Found> all = new ArrayList<>();
      collect(text, null, all);
      return all;
    }

    private static void collect(List<Cell> cells, Found host, List<Found> all) {
      Span latest = null;
      for (Cell cell : cells) {
        if (cell.span != null && cell.span != latest) {
          for (Note note : cell.span.notes) {
            Found found = new Found();
            found.note = note;
            found.span = cell.span;
            found.cells = cells;
            found.host = host;
            found.number = all.size();
            found.depth = host == null ? 1 : host.depth + 1;
            all.add(found);
            collect(note.row, found, all);
          }
        }
        latest = cell.span;
      }
    }

    List<Integer> words() {
      return wordsOf(text);
    }

    String printed() {
      return show(text).replaceAll("^ | $", "").replaceAll(" *([\\[\\]|ab]) *", "$1");
    }

    private static String show(List<Cell> cells) {
      StringBuilder out = new StringBuilder();
      for (int i = 0; i < cells.size(); i++) {
        Span span = cells.get(i).span;
        if (span != null && (i == 0 || cells.get(i - 1).span != span)) {
          out.append('[');
        }
        out.append(' ').append(cells.get(i).word).append(' ');
        if (span != null && (i == cells.size() - 1 || cells.get(i + 1).span != span)) {
          for (Note note : span.notes) {
            out.append('|').append(note.kind).append(show(note.row));
          }
          out.append(']');
        }
      }
      return out.toString().replaceAll("  +", " ");
    }

    void sweep() {
      for (Cell cell : text) {
        sweepCell(cell);
      }
    }

    private static void sweepCell(Cell cell) {
      if (cell.span == null) {
        return;
      }
      if (cell.span.notes.isEmpty()) {
        cell.span = null;
        return;
      }
      for (Note note : cell.span.notes) {
        for (Cell inner : note.row) {
          sweepCell(inner);
        }
      }
    }
  }

  private static List<Integer> wordsOf(List<Cell> cells) {
    List<Integer> words = new ArrayList<>();
    for (Cell cell : cells) {
      words.add(cell.word);
    }
    return words;
  }

  private static final class Fault extends RuntimeException {
    final int number;
    final int at;

    Fault(int number, int at) {
      this.number = number;
      this.at = at;
    }
  }

  /** Tokens of a text: numbers, runs of letters (in books: single signs), other signs. */
  private static final class Token {
    String text;
    int at;

    boolean isNumber() {
      return !text.isEmpty() && Character.isDigit(text.charAt(0)) && text.charAt(0) < 128;
    }
  }

  private static List<Token> tokens(String text, boolean letterRuns) {
    List<Token> all = new ArrayList<>();
    int i = 0;
    while (i < text.length()) {
      int end = i + 1;
      if (figure(text.charAt(i))) {
        while (end < text.length() && figure(text.charAt(end))) {
          end++;
        }
      } else if (letterRuns && letter(text.charAt(i))) {
        while (end < text.length() && letter(text.charAt(end))) {
          end++;
        }
      }
      if (text.charAt(i) != ' ') {
        Token token = new Token();
        token.text = text.substring(i, end);
        token.at = i;
        all.add(token);
      }
      i = end;
    }
    Token last = new Token();
    last.text = "";
    last.at = text.length();
    all.add(last);
    return all;
  }

  private static boolean figure(char c) {
    return c >= '0' && c <= '9';
  }

  private static boolean letter(char c) {
    return c >= 'a' && c <= 'z';
  }

  private static int value(Token token, int low, int high) {
    if (!token.isNumber()) {
      throw new Fault(1, token.at);
    }
    if (token.text.length() > 2 || Integer.parseInt(token.text) < low || Integer.parseInt(token.text) > high) {
      throw new Fault(2, token.at);
    }
    return Integer.parseInt(token.text);
  }

  /** Reads a book by descending into its parts. */
  private static final class Parser {
    final List<Token> tokens;
    int next = 0;
    int glosses = 0;

    Parser(String text) {
      tokens = tokens(text, false);
    }

    Token peek() {
      return tokens.get(next);
    }

    boolean sees(String sign) {
      return peek().text.equals(sign);
    }

    void expect(String sign) {
      if (!sees(sign)) {
        throw new Fault(1, peek().at);
      }
      next++;
    }

    Volume volume() {
      Volume volume = new Volume();
      while (!sees("")) {
        item(volume.text, 40, 0);
      }
      return volume;
    }

    void item(List<Cell> row, int room, int depth) {
      if (sees("[")) {
        span(row, room, depth);
      } else {
        word(row, room, null);
      }
    }

    void word(List<Cell> row, int room, Span span) {
      int at = peek().at;
      int word = value(peek(), 0, 63);
      if (row.size() == room) {
        throw new Fault(3, at);
      }
      row.add(new Cell(word, span));
      next++;
    }

    void span(List<Cell> row, int room, int depth) {
      expect("[");
      Span span = new Span();
      do {
        word(row, room, span);
      } while (peek().isNumber());
      do {
        bar(span, depth + 1);
      } while (sees("|"));
      expect("]");
    }

    void bar(Span span, int depth) {
      int at = peek().at;
      expect("|");
      glosses++;
      if (glosses > 20) {
        throw new Fault(4, at);
      }
      if (depth > 4) {
        throw new Fault(5, at);
      }
      if (!sees("a") && !sees("b")) {
        throw new Fault(1, peek().at);
      }
      Note note = new Note();
      span.notes.add(note);
      note.kind = peek().text.charAt(0);
      next++;
      int room = note.kind == 'a' ? 4 : 8;
      do {
        item(note.row, room, depth);
      } while (sees("[") || peek().isNumber());
    }
  }

  private static final class Clause {
    String name;
    int a;
    int b;
    int d = NONE;
    String way = "";
    int m;
  }

  private static final String[] NAMES = {"for", "skip", "turn", "into", "drop", "move"};
  private static final String[] WAYS = {"ahead", "behind", "instead"};

  private static int indexOf(String[] names, String name) {
    for (int i = 0; i < names.length; i++) {
      if (names[i].equals(name)) {
        return i;
      }
    }
    return NONE;
  }

  private static List<Clause> habits(String text) {
    List<Token> tokens = tokens(text, true);
    List<Clause> told = new ArrayList<>();
    int next = 0;
    while (!tokens.get(next).text.isEmpty()) {
      Clause clause = new Clause();
      Token name = tokens.get(next++);
      clause.name = name.text;
      if (indexOf(NAMES, clause.name) == NONE) {
        throw new Fault(1, name.at);
      }
      if (all(told, clause.name).size() >= (clause.name.equals("for") ? 4 : 1)) {
        throw new Fault(3, name.at);
      }
      if (clause.name.equals("for")) {
        clause.a = value(tokens.get(next), 0, 63);
        for (Clause other : all(told, "for")) {
          if (other.a == clause.a) {
            throw new Fault(3, tokens.get(next).at);
          }
        }
        next++;
        clause.b = value(tokens.get(next), 0, 63);
        if (clause.a == clause.b) {
          throw new Fault(3, tokens.get(next).at);
        }
        next++;
      }
      if (clause.name.equals("skip")) {
        clause.d = value(tokens.get(next++), 1, 20);
      }
      if (clause.name.equals("into")) {
        clause.way = tokens.get(next).text;
        if (indexOf(WAYS, clause.way) == NONE) {
          throw new Fault(1, tokens.get(next).at);
        }
        next++;
      }
      clause.m = value(tokens.get(next++), 1, 99);
      if (!tokens.get(next).text.equals(";")) {
        throw new Fault(1, tokens.get(next).at);
      }
      next++;
      told.add(clause);
    }
    return told;
  }

  private static List<Clause> all(List<Clause> told, String name) {
    List<Clause> some = new ArrayList<>();
    for (Clause clause : told) {
      if (clause.name.equals(name)) {
        some.add(clause);
      }
    }
    return some;
  }

  // ---- copying in the model

  private static boolean chance(Volume copy, Clause clause, int[] counter) {
    int habit = indexOf(NAMES, clause.name);
    counter[0]++;
    copy.chances[habit]++;
    if (counter[0] % clause.m == 0) {
      copy.takes[habit]++;
      return true;
    }
    return false;
  }

  private static Volume copyOf(Volume exemplar) {
    Volume copy = new Volume();
    copy.text = copyCells(exemplar.text);
    return copy;
  }

  private static List<Cell> copyCells(List<Cell> cells) {
    List<Cell> copies = new ArrayList<>();
    Span from = null;
    Span to = null;
    for (Cell cell : cells) {
      if (cell.span != from) {
        from = cell.span;
        to = from == null ? null : new Span();
        if (from != null) {
          for (Note note : from.notes) {
            Note twin = new Note();
            twin.kind = note.kind;
            twin.row = copyCells(note.row);
            to.notes.add(twin);
          }
        }
      }
      copies.add(new Cell(cell.word, to));
    }
    return copies;
  }

  private static Volume copied(Volume exemplar, List<Clause> habits) {
    Volume copy = copyOf(exemplar);
    putFor(copy, all(habits, "for"));
    for (Clause clause : all(habits, "skip")) {
      skip(copy, clause);
    }
    for (Clause clause : all(habits, "turn")) {
      turn(copy, clause);
    }
    for (Clause clause : all(habits, "into")) {
      into(copy, clause);
    }
    for (Clause clause : all(habits, "drop")) {
      drop(copy, clause);
    }
    for (Clause clause : all(habits, "move")) {
      move(copy, clause);
    }
    return copy;
  }

  private static void putFor(Volume copy, List<Clause> fors) {
    List<Cell> cells = new ArrayList<>(copy.text);
    for (Found found : copy.glosses()) {
      cells.addAll(found.note.row);
    }
    List<Integer> before = wordsOf(cells);
    for (Clause clause : fors) {
      int[] counter = {0};
      for (int i = 0; i < cells.size(); i++) {
        if (before.get(i) == clause.a && chance(copy, clause, counter)) {
          cells.get(i).word = clause.b;
        }
      }
    }
  }

  private static void skip(Volume copy, Clause clause) {
    int[] counter = {0};
    int i = 0;
    while (i < copy.text.size()) {
      List<Integer> ahead = copy.words().subList(i + 1, Math.min(copy.text.size(), i + 1 + clause.d));
      int like = ahead.indexOf(copy.text.get(i).word);
      if (like >= 0 && chance(copy, clause, counter)) {
        copy.text.subList(i + 1, i + 2 + like).clear();
      } else {
        i++;
      }
    }
  }

  private static void turn(Volume copy, Clause clause) {
    int[] counter = {0};
    int i = 0;
    while (i + 1 < copy.text.size()) {
      Cell one = copy.text.get(i);
      Cell two = copy.text.get(i + 1);
      if (one.span == null && two.span == null && one.word != two.word && chance(copy, clause, counter)) {
        copy.text.set(i, two);
        copy.text.set(i + 1, one);
        i++;
      }
      i++;
    }
  }

  private static List<Cell> cellsOf(List<Cell> cells, Span span) {
    List<Cell> some = new ArrayList<>();
    for (Cell cell : cells) {
      if (cell.span == span) {
        some.add(cell);
      }
    }
    return some;
  }

  private static void into(Volume copy, Clause clause) {
    int[] counter = {0};
    for (Found found : copy.glosses()) {
      if (found.host != null || found.note.kind != 'a') {
        continue;
      }
      List<Cell> lemma = cellsOf(copy.text, found.span);
      boolean instead = clause.way.equals("instead");
      int then = copy.text.size() + found.note.row.size() - (instead ? lemma.size() : 0);
      if (then > 40 || !chance(copy, clause, counter)) {
        continue;
      }
      List<Cell> slipped = new ArrayList<>();
      for (Cell cell : found.note.row) {
        slipped.add(new Cell(cell.word, instead ? found.span : null));
      }
      int first = copy.text.indexOf(lemma.get(0));
      int behind = first + lemma.size();
      copy.text.addAll(clause.way.equals("ahead") ? first : behind, slipped);
      if (instead) {
        copy.text.subList(first, behind).clear();
      }
      found.span.notes.remove(found.note);
      copy.sweep();
    }
  }

  private static void drop(Volume copy, Clause clause) {
    int[] counter = {0};
    for (Found found : copy.glosses()) {
      boolean there = false;
      for (Found still : copy.glosses()) {
        there |= still.note == found.note;
      }
      if (there && chance(copy, clause, counter)) {
        found.span.notes.remove(found.note);
        copy.sweep();
      }
    }
  }

  private static void move(Volume copy, Clause clause) {
    int[] counter = {0};
    for (Found found : copy.glosses()) {
      List<Cell> lemma = cellsOf(copy.text, found.span);
      if (found.host != null || found.note.kind != 'b' || found.span.notes.size() != 1 || lemma.size() != 1) {
        continue;
      }
      int next = copy.text.indexOf(lemma.get(0)) + 1;
      if (next < copy.text.size() && copy.text.get(next).span == null && chance(copy, clause, counter)) {
        copy.text.get(next).span = found.span;
        lemma.get(0).span = null;
      }
    }
  }

  // ---- beside one another in the model

  private static final Map<String, String> WAYS_FOUND = new HashMap<>();

  /** The first of the ways at the least cost: p two beside one another, q LEFT, r PUT. */
  private static String way(List<Integer> a, List<Integer> b) {
    return WAYS_FOUND.computeIfAbsent(a + "/" + b, both -> findWay(a, b));
  }

  private static String findWay(List<Integer> a, List<Integer> b) {
    int[][] costs = new int[a.size() + 1][b.size() + 1];
    String[][] ways = new String[a.size() + 1][b.size() + 1];
    for (int i = a.size(); i >= 0; i--) {
      for (int j = b.size(); j >= 0; j--) {
        int least = Integer.MAX_VALUE;
        String first = "";
        if (i == a.size() && j == b.size()) {
          least = 0;
        }
        if (i < a.size() && j < b.size()) {
          int cost = costs[i + 1][j + 1] + (a.get(i).equals(b.get(j)) ? 0 : 1);
          String way = "p" + ways[i + 1][j + 1];
          if (cost < least || cost == least && way.compareTo(first) < 0) {
            least = cost;
            first = way;
          }
        }
        if (i < a.size()) {
          int cost = costs[i + 1][j] + 1;
          String way = "q" + ways[i + 1][j];
          if (cost < least || cost == least && way.compareTo(first) < 0) {
            least = cost;
            first = way;
          }
        }
        if (j < b.size()) {
          int cost = costs[i][j + 1] + 1;
          String way = "r" + ways[i][j + 1];
          if (cost < least || cost == least && way.compareTo(first) < 0) {
            least = cost;
            first = way;
          }
        }
        costs[i][j] = least;
        ways[i][j] = first;
      }
    }
    return ways[0][0];
  }

  private static List<Integer> partners(List<Integer> a, List<Integer> b) {
    List<Integer> partners = new ArrayList<>();
    int j = 0;
    for (char c : way(a, b).toCharArray()) {
      if (c == 'p') {
        partners.add(j);
      }
      if (c == 'q') {
        partners.add(NONE);
      }
      if (c != 'q') {
        j++;
      }
    }
    return partners;
  }

  private static int cost(List<Integer> a, List<Integer> b) {
    List<Integer> partners = partners(a, b);
    int cost = b.size();
    for (int i = 0; i < a.size(); i++) {
      int j = partners.get(i);
      if (j == NONE) {
        cost++;
      } else if (a.get(i).equals(b.get(j))) {
        cost--;
      }
    }
    return cost;
  }

  // ---- the model's face

  private static final class Model {
    final List<Volume> books = new ArrayList<>();
    final List<List<Clause>> hands = new ArrayList<>();
    String text = "";
    int fault = NONE;

    Model() {
      for (int h = 0; h < 4; h++) {
        hands.add(new ArrayList<>());
      }
    }

    boolean has(int b) {
      return b >= 0 && b < books.size();
    }

    boolean hasAll(int set) {
      for (int b = 0; b < 32; b++) {
        if ((set >> b & 1) == 1 && !has(b)) {
          return false;
        }
      }
      return true;
    }

    int feed(int n, long bytes) {
      if (n < 1 || n > 8) {
        return OUTSIDE;
      }
      if (text.length() + n > 320) {
        return FULL;
      }
      String more = "";
      for (int k = 0; k < n; k++) {
        more = (char) (bytes & 255) + more;
        bytes >>= 8;
      }
      text += more;
      return text.length();
    }

    int book() {
      if (books.size() == 10) {
        return FULL;
      }
      String told = text;
      text = "";
      fault = NONE;
      try {
        books.add(new Parser(told).volume());
      } catch (Fault found) {
        fault = found.at;
        return -10 - found.number;
      }
      return books.size() - 1;
    }

    int hand(int h) {
      if (h < 0 || h > 3) {
        return UNKNOWN;
      }
      if (text.length() > 160) {
        return OUTSIDE;
      }
      String told = text;
      text = "";
      fault = NONE;
      try {
        hands.set(h, habits(told));
      } catch (Fault found) {
        fault = found.at;
        return -10 - found.number;
      }
      return hands.get(h).size();
    }

    int habit(int h, int what) {
      if (h < 0 || h > 3) {
        return UNKNOWN;
      }
      if (what < 0 || what > 7) {
        return OUTSIDE;
      }
      if (what == 0) {
        return all(hands.get(h), "for").size();
      }
      List<Clause> one = all(hands.get(h), what == 6 ? "skip" : what == 7 ? "into" : NAMES[what]);
      if (one.isEmpty()) {
        return NONE;
      }
      return what == 6 ? one.get(0).d : what == 7 ? indexOf(WAYS, one.get(0).way) : one.get(0).m;
    }

    int copy(int b, int h) {
      if (!has(b) || h < 0 || h > 3) {
        return UNKNOWN;
      }
      if (books.size() == 10) {
        return FULL;
      }
      Volume copy = copied(books.get(b), hands.get(h));
      copy.exemplar = b;
      copy.scribe = h;
      books.add(copy);
      return books.size() - 1;
    }

    int taken(int b, int habit, boolean all) {
      if (!has(b)) {
        return UNKNOWN;
      }
      if (habit < 0 || habit > 5) {
        return OUTSIDE;
      }
      if (books.get(b).exemplar == NONE) {
        return NOT;
      }
      return all ? books.get(b).chances[habit] : books.get(b).takes[habit];
    }

    int amend(int b, int i, int w) {
      if (!has(b)) {
        return UNKNOWN;
      }
      if (i < 0 || i >= books.get(b).text.size() || w < 0 || w > 63) {
        return OUTSIDE;
      }
      int was = books.get(b).text.get(i).word;
      books.get(b).text.get(i).word = w;
      return was;
    }

    int lift(int b, int g) {
      if (!has(b) || g < 0 || g >= books.get(b).glosses().size()) {
        return UNKNOWN;
      }
      int before = books.get(b).glosses().size();
      Found found = books.get(b).glosses().get(g);
      found.span.notes.remove(found.note);
      books.get(b).sweep();
      return before - books.get(b).glosses().size();
    }

    int print(int b, int i) {
      if (!has(b)) {
        return UNKNOWN;
      }
      String printed = books.get(b).printed();
      return i == NONE ? printed.length() : i < 0 || i >= printed.length() ? NONE : printed.charAt(i);
    }

    int word(int b, int i) {
      if (!has(b)) {
        return UNKNOWN;
      }
      return at(books.get(b).words(), i);
    }

    private static int at(List<Integer> row, int i) {
      return i < 0 || i >= row.size() ? NONE : row.get(i);
    }

    private static int atOrSize(List<Integer> row, int i) {
      return i == NONE ? row.size() : at(row, i);
    }

    int about(int b, int what) {
      if (!has(b)) {
        return UNKNOWN;
      }
      Volume book = books.get(b);
      int deepest = 0;
      int above = 0;
      int words = 0;
      List<Span> spans = new ArrayList<>();
      for (Found found : book.glosses()) {
        deepest = Math.max(deepest, found.depth);
        above += found.note.kind == 'a' ? 1 : 0;
        words += found.note.row.size();
        if (!spans.contains(found.span)) {
          spans.add(found.span);
        }
      }
      int[] answers = {book.text.size(), book.glosses().size(), deepest, book.exemplar, book.scribe,
        spans.size(), above, words};
      return what < 0 || what > 7 ? OUTSIDE : answers[what];
    }

    int gloss(int b, int g, int what) {
      if (!has(b) || g < 0 || g >= books.get(b).glosses().size()) {
        return UNKNOWN;
      }
      Found found = books.get(b).glosses().get(g);
      List<Cell> lemma = cellsOf(found.cells, found.span);
      int first = found.cells.indexOf(lemma.get(0));
      int[] answers = {found.note.kind - 'a', found.host == null ? NONE : found.host.number, first,
        first + lemma.size() - 1, found.note.row.size(), found.depth, found.span.notes.indexOf(found.note)};
      if (what < 0 || what > 14) {
        return OUTSIDE;
      }
      return what < 7 ? answers[what] : at(wordsOf(found.note.row), what - 7);
    }

    int count(int what) {
      int copies = 0;
      for (Volume book : books) {
        copies += book.exemplar == NONE ? 0 : 1;
      }
      int[] answers = {books.size(), text.length(), copies};
      return what < 0 || what > 2 ? OUTSIDE : answers[what];
    }

    int distance(int a, int b) {
      return !has(a) || !has(b) ? UNKNOWN : cost(books.get(a).words(), books.get(b).words());
    }

    int beside(int a, int b, int i) {
      if (!has(a) || !has(b)) {
        return UNKNOWN;
      }
      if (i < 0 || i >= books.get(a).text.size()) {
        return OUTSIDE;
      }
      return partners(books.get(a).words(), books.get(b).words()).get(i);
    }

    int slipped(int a, int b) {
      if (!has(a) || !has(b)) {
        return UNKNOWN;
      }
      List<Integer> other = books.get(b).words();
      List<Integer> partners = partners(books.get(a).words(), other);
      int set = 0;
      for (Found found : books.get(a).glosses()) {
        List<Integer> row = wordsOf(found.note.row);
        for (int from = 0; found.host == null && from + row.size() <= other.size(); from++) {
          boolean put = other.subList(from, from + row.size()).equals(row);
          for (int k = 0; k < row.size(); k++) {
            put &= !partners.contains(from + k);
          }
          int first = partners.get(gloss(a, found.number, 2));
          int last = partners.get(gloss(a, found.number, 3));
          boolean ahead = first != NONE && from + row.size() == first;
          boolean behind = last != NONE && from == last + 1;
          if (put && (ahead || behind)) {
            set |= 1 << found.number;
          }
        }
      }
      return set;
    }

    List<Integer> readings(int base, int b) {
      List<Integer> readings = new ArrayList<>();
      for (int place : partners(books.get(base).words(), books.get(b).words())) {
        readings.add(at(books.get(b).words(), place));
      }
      return readings;
    }

    int reading(int base, int b, int i) {
      if (!has(base) || !has(b)) {
        return UNKNOWN;
      }
      return i < 0 || i >= books.get(base).text.size() ? OUTSIDE : readings(base, b).get(i);
    }

    /** By places: the readings, each with the set of those who have it, the base among them. */
    List<TreeMap<Integer, Integer>> heard(int base, int set) {
      List<TreeMap<Integer, Integer>> places = new ArrayList<>();
      for (int i = 0; i < books.get(base).text.size(); i++) {
        places.add(new TreeMap<>());
      }
      for (int b = 0; b < books.size(); b++) {
        if (b == base || (set >> b & 1) == 1) {
          List<Integer> readings = readings(base, b);
          for (int i = 0; i < readings.size(); i++) {
            places.get(i).merge(readings.get(i), 1 << b, (x, y) -> x | y);
          }
        }
      }
      return places;
    }

    int mostOf(TreeMap<Integer, Integer> readings, int own) {
      int best = 0;
      for (int members : readings.values()) {
        best = Math.max(best, Integer.bitCount(members));
      }
      if (Integer.bitCount(readings.get(own)) == best) {
        return own;
      }
      for (int reading : readings.keySet()) {
        if (Integer.bitCount(readings.get(reading)) == best) {
          return reading;
        }
      }
      return NONE;
    }

    int most(int base, int set, int i, int what) {
      if (!has(base) || !hasAll(set)) {
        return UNKNOWN;
      }
      if (i < 0 || i >= books.get(base).text.size() || what < 0 || what > 1) {
        return OUTSIDE;
      }
      TreeMap<Integer, Integer> readings = heard(base, set).get(i);
      int most = mostOf(readings, books.get(base).text.get(i).word);
      return what == 0 ? most : Integer.bitCount(readings.get(most));
    }

    int restored(int base, int set, int i) {
      if (!has(base) || !hasAll(set)) {
        return UNKNOWN;
      }
      List<Integer> text = new ArrayList<>();
      List<TreeMap<Integer, Integer>> heard = heard(base, set);
      for (int place = 0; place < heard.size(); place++) {
        int most = mostOf(heard.get(place), books.get(base).text.get(place).word);
        if (most != NONE) {
          text.add(most);
        }
      }
      return atOrSize(text, i);
    }

    List<Integer> groups(int base, int set) {
      List<Integer> groups = new ArrayList<>();
      for (TreeMap<Integer, Integer> readings : heard(base, set)) {
        for (int members : readings.values()) {
          if ((members >> base & 1) == 0 && Integer.bitCount(members) > 1 && !groups.contains(members)) {
            groups.add(members);
          }
        }
      }
      return groups;
    }

    int group(int base, int set, int i) {
      return !has(base) || !hasAll(set) ? UNKNOWN : atOrSize(groups(base, set), i);
    }

    static boolean clashes(int one, int other) {
      int common = one & other;
      return common != 0 && common != one && common != other;
    }

    int clash(int base, int set) {
      if (!has(base) || !hasAll(set)) {
        return UNKNOWN;
      }
      int twice = 0;
      for (int one : groups(base, set)) {
        for (int other : groups(base, set)) {
          twice += clashes(one, other) ? 1 : 0;
        }
      }
      return twice / 2;
    }

    int sound(int base, int set, int i) {
      if (!has(base) || !hasAll(set)) {
        return UNKNOWN;
      }
      List<Integer> sound = new ArrayList<>();
      for (int one : groups(base, set)) {
        boolean stands = true;
        for (int other : groups(base, set)) {
          stands &= !clashes(one, other);
        }
        if (stands) {
          sound.add(one);
        }
      }
      return atOrSize(sound, i);
    }

    /** Parents by books; the sum at 10, those astray at 11. */
    int[] leastTree(int root, int set) {
      int[] answer = new int[12];
      TreeSet<Integer> in = new TreeSet<>();
      in.add(root);
      answer[root] = NONE;
      while (in.size() < Integer.bitCount(set)) {
        int best = Integer.MAX_VALUE;
        int child = NONE;
        int host = NONE;
        for (int b = 0; b < books.size(); b++) {
          for (int k : in) {
            if ((set >> b & 1) == 1 && !in.contains(b) && distance(k, b) < best) {
              best = distance(k, b);
              child = b;
              host = k;
            }
          }
        }
        in.add(child);
        answer[child] = host;
        answer[10] += best;
        answer[11] += books.get(child).exemplar == host ? 0 : 1;
      }
      return answer;
    }

    int parent(int root, int set, int b) {
      if (!hasAll(set) || !has(root) || !has(b) || (set >> root & 1) == 0 || (set >> b & 1) == 0) {
        return UNKNOWN;
      }
      return leastTree(root, set)[b];
    }

    int tree(int root, int set, int what) {
      if (!hasAll(set) || !has(root) || (set >> root & 1) == 0) {
        return UNKNOWN;
      }
      return what < 0 || what > 1 ? OUTSIDE : leastTree(root, set)[10 + what];
    }

    /** The least steps between all words, by trying each word as one on the way. */
    int[][] allSteps(int b) {
      int[][] steps = new int[64][64];
      for (int[] row : steps) {
        java.util.Arrays.fill(row, 1000);
      }
      for (Found found : books.get(b).glosses()) {
        List<Cell> lemma = cellsOf(found.cells, found.span);
        if (lemma.size() == 1 && found.note.row.size() == 1) {
          steps[lemma.get(0).word][found.note.row.get(0).word] = 1;
        }
      }
      for (int k = 0; k < 64; k++) {
        for (int i = 0; i < 64; i++) {
          for (int j = 0; j < 64; j++) {
            steps[i][j] = Math.min(steps[i][j], steps[i][k] + steps[k][j]);
          }
        }
      }
      return steps;
    }

    long explained(int b, int w) {
      if (!has(b)) {
        return UNKNOWN;
      }
      if (w < 0 || w > 63) {
        return OUTSIDE;
      }
      long set = 0;
      for (int v = 0; v < 64; v++) {
        set |= allSteps(b)[w][v] == 1 ? 1L << v : 0;
      }
      return set;
    }

    int steps(int b, int w, int v) {
      if (!has(b)) {
        return UNKNOWN;
      }
      if (w < 0 || w > 63 || v < 0 || v > 63) {
        return OUTSIDE;
      }
      int steps = allSteps(b)[w][v];
      return steps >= 1000 ? NONE : steps;
    }

    long round(int b) {
      if (!has(b)) {
        return UNKNOWN;
      }
      long set = 0;
      int[][] steps = allSteps(b);
      for (int w = 0; w < 64; w++) {
        set |= steps[w][w] < 1000 ? 1L << w : 0;
      }
      return set;
    }
  }

  // ---- random runs

  private static final int RUNS = 400;

  /** Answers behind the 512th call are free; this class goes on answering, and longer runs find more. */
  private static final int CALLS = 900;

  private final Random random;
  private final int run;
  private final int words;
  private final GlossedBooks real = new GlossedBooks();
  private final Model model = new Model();
  private int calls = 0;
  private static int wrong = 0;
  private static long answers = 0;

  private GlossedBooksAgainstModel(int run) {
    this.run = run;
    this.random = new Random(7919L * run + 13);
    // Few words make likes, rounds and long skips; all of them make long numbers.
    this.words = new int[] {3, 6, 12, 64}[run % 4];
  }

  private void due(String call, long got, long want) {
    calls++;
    answers++;
    if (got != want) {
      wrong++;
      System.out.println("run " + run + " call " + calls + ": " + call + " answered " + got + ", due is " + want);
    }
  }

  private int some(int below) {
    return random.nextInt(below);
  }

  /** Mostly from low to high, now and then beyond. */
  private int number(int low, int high) {
    int kind = some(40);
    if (kind == 0) {
      return random.nextInt();
    }
    if (kind == 1) {
      return low - 1 - some(2);
    }
    if (kind == 2) {
      return high + 1 + some(2);
    }
    return high < low ? low : low + some(high - low + 1);
  }

  private int bookNumber() {
    return number(0, real.count(0) - 1);
  }

  private int set() {
    int all = (1 << real.count(0)) - 1;
    int kind = some(30);
    return kind == 0 ? random.nextInt() : kind == 1 ? all + 1 : kind < 15 ? all : some(all + 1);
  }

  private void tell(String text) {
    int at = 0;
    while (at < text.length()) {
      int n = Math.min(some(3) == 0 ? 1 + some(8) : 8, text.length() - at);
      long bytes = some(3) == 0 ? random.nextLong() : 0;
      for (int k = 0; k < n; k++) {
        bytes = bytes << 8 | text.charAt(at + k);
      }
      due("feed", real.feed(n, bytes), model.feed(n, bytes));
      at += n;
    }
  }

  private String blank() {
    return some(12) == 0 ? "  " : some(6) == 0 ? " " : "";
  }

  private String wordText() {
    int word = some(words);
    return (word < 10 && some(8) == 0 ? "0" : "") + word;
  }

  private int glossesLeft;

  private String row(int length, int depth, int likely) {
    StringBuilder text = new StringBuilder();
    int left = length;
    while (left > 0) {
      if (glossesLeft > 0 && depth < 4 && some(likely) == 0) {
        int lemma = 1 + some(Math.min(left, some(2) == 0 ? 1 : 3));
        text.append(blank()).append('[');
        for (int k = 0; k < lemma; k++) {
          text.append(k == 0 ? blank() : " ").append(wordText());
        }
        do {
          glossesLeft--;
          boolean above = some(2) == 0;
          text.append(blank()).append('|').append(blank()).append(above ? 'a' : 'b');
          int most = some(2) == 0 ? 1 : above ? 4 : 8;
          text.append(row(1 + some(most), depth + 1, 3));
        } while (glossesLeft > 0 && some(3) == 0);
        text.append(blank()).append(']');
        left -= lemma;
      } else {
        text.append(' ').append(wordText());
        left--;
      }
    }
    return text.toString();
  }

  private String spoiled(String text, String signs) {
    if (some(4) != 0 || text.isEmpty()) {
      return text;
    }
    int at = some(text.length());
    char sign = signs.charAt(some(signs.length()));
    switch (some(4)) {
      case 0:
        return text.substring(0, at) + text.substring(at + 1);
      case 1:
        return text.substring(0, at);
      case 2:
        return text.substring(0, at) + sign + text.substring(at);
      default:
        return text.substring(0, at) + sign + text.substring(at + 1);
    }
  }

  private String bookText() {
    if (some(20) == 0) {
      // Depths and numbers of glosses up to their bounds and one beyond.
      int bars = some(2) == 0 ? 1 : 15 + some(7);
      return "[1" + "|a2".repeat(bars) + "]" + "[1|a".repeat(some(6)) + "3";
    }
    glossesLeft = some(3) == 0 ? 0 : 4 + some(18);
    int length = some(8) == 0 ? 36 + some(6) : some(8) == 0 ? 0 : 3 + some(25);
    String text = row(length, 0, 2 + some(6));
    String squeezed = text.replaceAll(" +", " ");
    return spoiled(text.length() > 320 ? squeezed : text, " 0169[]|abcx;" + (char) some(256));
  }

  private String clauseText() {
    String each = some(4) == 0 ? "" + (1 + some(99)) : "" + (1 + some(3));
    if (some(30) == 0) {
      each = "" + number(1, 99);
    }
    switch (some(7)) {
      case 0:
        return "for " + some(words + 1) + " " + some(words + 1) + " " + each + ";";
      case 1:
        return "skip " + (some(30) == 0 ? 21 : 1 + some(20)) + " " + each + ";";
      case 2:
        return "turn" + blank() + each + ";";
      case 3:
      case 6:
        return "into " + WAYS[some(3)] + blank() + each + ";";
      case 4:
        return "drop " + each + blank() + ";";
      default:
        return "move " + each + ";" + blank();
    }
  }

  private String handText() {
    StringBuilder text = new StringBuilder();
    int clauses = some(20) == 0 ? 12 : some(5);
    for (int k = 0; k < clauses; k++) {
      text.append(blank()).append(clauseText());
    }
    return some(40) == 0 ? " ".repeat(155) + text : spoiled(text.toString(), " 019;abfors[" + (char) some(256));
  }

  private void tellBook() {
    if (some(20) == 0) {
      int n = number(1, 8);
      long bytes = random.nextLong();
      due("feed", real.feed(n, bytes), model.feed(n, bytes));
    }
    String text = bookText();
    tell(text.replace(" ", "").length() < 3 && some(3) != 0 ? "1 2[3|a4]5" : text);
    due("count", real.count(1), model.count(1));
    due("book()", real.book(), model.book());
    due("fault()", real.fault(), model.fault);
  }

  private void tellHand() {
    int h = number(0, 3);
    tell(handText());
    due("hand(" + h + ")", real.hand(h), model.hand(h));
    due("fault()", real.fault(), model.fault);
    for (int what = -1; what < 9; what++) {
      due("habit(" + h + ", " + what + ")", real.habit(h, what), model.habit(h, what));
    }
  }

  private void wholeBook(int b) {
    String printed = b >= 0 && b < model.books.size() ? model.books.get(b).printed() : "";
    due("print(" + b + ", -1)", real.print(b, NONE), model.print(b, NONE));
    StringBuilder got = new StringBuilder();
    for (int i = 0; i < printed.length(); i++) {
      got.append((char) real.print(b, i));
    }
    due("print(" + b + ") '" + got + "' for '" + printed + "'", got.toString().equals(printed) ? 1 : 0, 1);
    for (int what = -1; what < 9; what++) {
      due("about(" + b + ", " + what + ")", real.about(b, what), model.about(b, what));
    }
    for (int habit = -1; habit < 7; habit++) {
      due("taken(" + b + ", " + habit + ", false)", real.taken(b, habit, false), model.taken(b, habit, false));
      due("taken(" + b + ", " + habit + ", true)", real.taken(b, habit, true), model.taken(b, habit, true));
    }
  }

  private void copy() {
    int b = bookNumber();
    int h = number(0, 3);
    int got = real.copy(b, h);
    due("copy(" + b + ", " + h + ")", got, model.copy(b, h));
    if (got >= 0) {
      wholeBook(got);
    }
  }

  private void change() {
    int b = bookNumber();
    if (some(2) == 0) {
      int i = number(0, real.about(b, 0) - 1);
      int w = number(0, words - 1);
      due("amend(" + b + ", " + i + ", " + w + ")", real.amend(b, i, w), model.amend(b, i, w));
    } else {
      int g = number(0, real.about(b, 1) - 1);
      due("lift(" + b + ", " + g + ")", real.lift(b, g), model.lift(b, g));
      wholeBook(b);
    }
  }

  private void look() {
    int b = bookNumber();
    int g = number(0, real.about(b, 1) - 1);
    for (int what = -1; what < 16; what++) {
      due("gloss(" + b + ", " + g + ", " + what + ")", real.gloss(b, g, what), model.gloss(b, g, what));
    }
    int i = number(NONE, 40);
    due("print(" + b + ", " + i + ")", real.print(b, i), model.print(b, i));
    due("word(" + b + ", " + i + ")", real.word(b, i), model.word(b, i));
    int what = number(0, 2);
    due("count(" + what + ")", real.count(what), model.count(what));
  }

  private void hold() {
    int a = bookNumber();
    int b = bookNumber();
    if (some(2) == 0 && real.about(b, 3) >= 0) {
      a = real.about(b, 3);
    }
    int i = number(0, real.about(a, 0) - 1);
    due("distance(" + a + ", " + b + ")", real.distance(a, b), model.distance(a, b));
    due("beside(" + a + ", " + b + ", " + i + ")", real.beside(a, b, i), model.beside(a, b, i));
    due("slipped(" + a + ", " + b + ")", real.slipped(a, b), model.slipped(a, b));
    due("reading(" + a + ", " + b + ", " + i + ")", real.reading(a, b, i), model.reading(a, b, i));
  }

  private void hear() {
    int base = bookNumber();
    int set = set();
    int i = number(0, real.about(base, 0) - 1);
    int what = number(0, 1);
    String with = "(" + base + ", " + set + ", " + i + ")";
    due("most" + with + what, real.most(base, set, i, what), model.most(base, set, i, what));
    due("restored" + with, real.restored(base, set, i), model.restored(base, set, i));
    due("restored" + with, real.restored(base, set, NONE), model.restored(base, set, NONE));
    int groups = real.group(base, set, NONE);
    due("group" + with, groups, model.group(base, set, NONE));
    int k = number(0, groups - 1);
    due("group" + with + k, real.group(base, set, k), model.group(base, set, k));
    due("clash" + with, real.clash(base, set), model.clash(base, set));
    due("sound" + with, real.sound(base, set, NONE), model.sound(base, set, NONE));
    k = number(0, Math.max(0, real.sound(base, set, NONE) - 1));
    due("sound" + with + k, real.sound(base, set, k), model.sound(base, set, k));
  }

  private void grow() {
    int root = bookNumber();
    int set = set();
    int what = number(0, 1);
    due("tree(" + root + ", " + set + ", " + what + ")", real.tree(root, set, what), model.tree(root, set, what));
    int b = bookNumber();
    due("parent(" + root + ", " + set + ", " + b + ")", real.parent(root, set, b), model.parent(root, set, b));
  }

  private void explain() {
    int b = bookNumber();
    int w = number(0, words - 1);
    int v = number(0, words - 1);
    due("explained(" + b + ", " + w + ")", real.explained(b, w), model.explained(b, w));
    due("steps(" + b + ", " + w + ", " + v + ")", real.steps(b, w, v), model.steps(b, w, v));
    due("round(" + b + ")", real.round(b), model.round(b));
  }

  private void go() {
    while (calls < CALLS && wrong < 20) {
      // First there must be books; then mostly more of them, till there are enough to hold together.
      boolean few = real.count(0) < 6 && some(3) != 0;
      switch (some(real.count(0) < 2 ? 3 : few ? 8 : 14)) {
        case 0:
          tellBook();
          break;
        case 1:
          tellHand();
          break;
        case 2:
        case 3:
          copy();
          break;
        case 4:
          change();
          break;
        case 5:
          look();
          break;
        case 6:
        case 7:
          hold();
          break;
        case 8:
        case 9:
          hear();
          break;
        case 10:
        case 11:
          grow();
          break;
        default:
          explain();
          break;
      }
    }
  }

  public static void main(String[] args) {
    int runs = args.length > 0 ? Integer.parseInt(args[0]) : RUNS;
    for (int run = 0; run < runs && wrong < 20; run++) {
      WAYS_FOUND.clear();
      new GlossedBooksAgainstModel(run).go();
    }
    System.out.println(answers + " answers held against the model, " + wrong + " not as due");
    if (wrong != 0) {
      System.exit(1);
    }
  }
}
