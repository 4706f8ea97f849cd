/**
 * Books of words with glosses, the hands that copy them, and what can be told of the copies
 * when they are held against one another.
 *
 * <p>All rows are made in the constructors and used again: no call makes an object.
 */
public final class GlossedBooks {
  public static final int NONE = -1, UNKNOWN = -1001, OUTSIDE = -1002, NOT = -1003, FULL = -1004;

  private static final int MOST_BOOKS = 10;
  private static final int MOST_HANDS = 4;
  private static final int MOST_WORDS = 40;
  private static final int MOST_GLOSSES = 20;
  private static final int MOST_DEPTH = 4;
  private static final int MOST_FORS = 4;
  private static final int ROOM_ABOVE = 4;
  private static final int ROOM_BESIDE = 8;
  private static final int LAST_WORD = 63;
  private static final int TEXT_BYTES = 320;
  private static final int HAND_BYTES = 160;
  private static final int NO_FAULT = 0;
  private static final int FAULT_BASE = -10;

  /** A text of 40 words takes 120 bytes at most, each gloss 28 with its signs. */
  private static final int PRINTED_BYTES = 700;

  /** At each of 40 places nine witnesses make four groups at most. */
  private static final int MOST_GROUPS = 160;

  private static final int ABOVE = 0;
  private static final int BESIDE = 1;

  private static final int FOR = 0;
  private static final int SKIP = 1;
  private static final int TURN = 2;
  private static final int INTO = 3;
  private static final int DROP = 4;
  private static final int MOVE = 5;
  private static final int HABITS = 6;

  private static final int AHEAD = 0;
  private static final int BEHIND = 1;
  private static final int INSTEAD = 2;
  private static final int WAYS = 3;

  private final Book[] books = new Book[MOST_BOOKS];
  private final Hand[] hands = new Hand[MOST_HANDS];
  private final Hand draft = new Hand();
  private final Told told = new Told();
  private final BookReader bookReader = new BookReader();
  private final Scribe scribe = new Scribe();
  private final Alignment alignment = new Alignment();
  private final Witnesses witnesses = new Witnesses();
  private final Tree leastTree = new Tree();
  private final Row printed = new Row(PRINTED_BYTES);
  private int bookCount = 0;
  private int faultAt = NONE;

  public GlossedBooks() {
    for (int b = 0; b < books.length; b++) {
      books[b] = new Book();
    }
    for (int h = 0; h < hands.length; h++) {
      hands[h] = new Hand();
    }
  }

  // ---- books, hands

  public int feed(int n, long bytes) {
    if (n < 1 || n > 8) {
      return OUTSIDE;
    }
    if (told.bytes.length() + n > TEXT_BYTES) {
      return FULL;
    }
    for (int k = n - 1; k >= 0; k--) {
      told.bytes.add((int) (bytes >>> (8 * k)) & 255);
    }
    return told.bytes.length();
  }

  public int book() {
    Book fresh = freshBook();
    if (fresh == null) {
      return FULL;
    }
    bookReader.readBook(told, fresh);
    if (endReading() != NO_FAULT) {
      return FAULT_BASE - told.faultNumber;
    }
    bookCount++;
    return bookCount - 1;
  }

  public int hand(int h) {
    Hand hand = handAt(h);
    if (hand == null) {
      return UNKNOWN;
    }
    if (told.bytes.length() > HAND_BYTES) {
      return OUTSIDE;
    }
    HandReader.readHand(told, draft);
    if (endReading() != NO_FAULT) {
      return FAULT_BASE - told.faultNumber;
    }
    hand.takeFrom(draft);
    return hand.clauses();
  }

  public int fault() {
    return faultAt;
  }

  public int habit(int h, int what) {
    Hand hand = handAt(h);
    if (hand == null) {
      return UNKNOWN;
    }
    if (what == 0) {
      return hand.from.length();
    }
    if (what >= SKIP && what <= MOVE) {
      return hand.each.at(what);
    }
    if (what == 6) {
      return hand.reach;
    }
    return what == 7 ? hand.way : OUTSIDE;
  }

  public int copy(int b, int h) {
    Book exemplar = bookAt(b);
    Hand hand = handAt(h);
    if (exemplar == null || hand == null) {
      return UNKNOWN;
    }
    Book fresh = freshBook();
    if (fresh == null) {
      return FULL;
    }
    fresh.takeFrom(exemplar);
    fresh.exemplar = b;
    fresh.scribe = h;
    scribe.write(fresh, hand);
    bookCount++;
    return bookCount - 1;
  }

  public int taken(int b, int habit, boolean all) {
    Book book = bookAt(b);
    if (book == null) {
      return UNKNOWN;
    }
    if (habit < FOR || habit > MOVE) {
      return OUTSIDE;
    }
    if (book.exemplar == NONE) {
      return NOT;
    }
    return all ? book.chances.at(habit) : book.takes.at(habit);
  }

  public int amend(int b, int i, int w) {
    Book book = bookAt(b);
    if (book == null) {
      return UNKNOWN;
    }
    if (!book.text.has(i) || !isWord(w)) {
      return OUTSIDE;
    }
    int was = book.text.at(i);
    book.text.put(i, w);
    return was;
  }

  public int lift(int b, int g) {
    Book book = bookAt(b);
    if (book == null || book.glossAt(g) == null) {
      return UNKNOWN;
    }
    int before = book.glossCount;
    book.takeAway(g);
    book.numberAnew();
    return before - book.glossCount;
  }

  // ---- what is there

  public int print(int b, int i) {
    Book book = bookAt(b);
    if (book == null) {
      return UNKNOWN;
    }
    book.printTo(printed);
    return i == NONE ? printed.length() : printed.at(i);
  }

  public int word(int b, int i) {
    Book book = bookAt(b);
    return book == null ? UNKNOWN : book.text.at(i);
  }

  public int about(int b, int what) {
    Book book = bookAt(b);
    if (book == null) {
      return UNKNOWN;
    }
    switch (what) {
      case 0:
        return book.text.length();
      case 1:
        return book.glossCount;
      case 2:
        return book.greatestDepth();
      case 3:
        return book.exemplar;
      case 4:
        return book.scribe;
      case 5:
        return book.spanCount();
      case 6:
        return book.aboveCount();
      case 7:
        return book.rowWords();
      default:
        return OUTSIDE;
    }
  }

  public int gloss(int b, int g, int what) {
    Book book = bookAt(b);
    Gloss gloss = book == null ? null : book.glossAt(g);
    if (book == null || gloss == null) {
      return UNKNOWN;
    }
    switch (what) {
      case 0:
        return gloss.kind;
      case 1:
        return gloss.host;
      case 2:
        return gloss.first;
      case 3:
        return gloss.last;
      case 4:
        return gloss.row.length();
      case 5:
        return book.depthOf(g);
      case 6:
        return book.orderInSpan(g);
      default:
        return what >= 7 && what < 7 + ROOM_BESIDE ? gloss.row.at(what - 7) : OUTSIDE;
    }
  }

  public int count(int what) {
    switch (what) {
      case 0:
        return bookCount;
      case 1:
        return told.bytes.length();
      case 2:
        return copyCount();
      default:
        return OUTSIDE;
    }
  }

  // ---- beside one another

  public int distance(int a, int b) {
    Book one = bookAt(a);
    Book other = bookAt(b);
    if (one == null || other == null) {
      return UNKNOWN;
    }
    return alignment.leastCost(one.text, other.text);
  }

  public int beside(int a, int b, int i) {
    Book one = bookAt(a);
    Book other = bookAt(b);
    if (one == null || other == null) {
      return UNKNOWN;
    }
    if (!one.text.has(i)) {
      return OUTSIDE;
    }
    alignment.lay(one.text, other.text);
    return alignment.partners.at(i);
  }

  public int slipped(int a, int b) {
    Book one = bookAt(a);
    Book other = bookAt(b);
    if (one == null || other == null) {
      return UNKNOWN;
    }
    alignment.lay(one.text, other.text);
    int set = 0;
    for (int g = 0; g < one.glossCount; g++) {
      Gloss gloss = one.glossAt(g);
      if (gloss != null && gloss.isOnText() && alignment.hasSlipped(gloss, other.text)) {
        set |= 1 << g;
      }
    }
    return set;
  }

  // ---- witnesses

  public int reading(int base, int b, int i) {
    Book one = bookAt(base);
    Book other = bookAt(b);
    if (one == null || other == null) {
      return UNKNOWN;
    }
    if (!one.text.has(i)) {
      return OUTSIDE;
    }
    alignment.lay(one.text, other.text);
    return other.text.at(alignment.partners.at(i));
  }

  public int most(int base, int set, int i, int what) {
    Book one = bookAt(base);
    if (one == null || !isSetOfBooks(set)) {
      return UNKNOWN;
    }
    if (!one.text.has(i) || what < 0 || what > 1) {
      return OUTSIDE;
    }
    hearWitnesses(base, set);
    int winner = witnesses.mostAt(i);
    return what == 0 ? winner : witnesses.votes(i, winner);
  }

  public int restored(int base, int set, int i) {
    if (bookAt(base) == null || !isSetOfBooks(set)) {
      return UNKNOWN;
    }
    hearWitnesses(base, set);
    Row text = witnesses.restoredText();
    return i == NONE ? text.length() : text.at(i);
  }

  public int group(int base, int set, int i) {
    if (bookAt(base) == null || !isSetOfBooks(set)) {
      return UNKNOWN;
    }
    hearWitnesses(base, set);
    Row groups = witnesses.findGroups();
    return i == NONE ? groups.length() : groups.at(i);
  }

  public int clash(int base, int set) {
    if (bookAt(base) == null || !isSetOfBooks(set)) {
      return UNKNOWN;
    }
    hearWitnesses(base, set);
    witnesses.findGroups();
    return witnesses.clashingPairs();
  }

  public int sound(int base, int set, int i) {
    if (bookAt(base) == null || !isSetOfBooks(set)) {
      return UNKNOWN;
    }
    hearWitnesses(base, set);
    witnesses.findGroups();
    Row groups = witnesses.soundGroups();
    return i == NONE ? groups.length() : groups.at(i);
  }

  // ---- trees

  public int parent(int root, int set, int b) {
    if (!isSetOfBooks(set) || !isIn(set, root) || !isIn(set, b)) {
      return UNKNOWN;
    }
    growTree(root, set);
    return leastTree.parents.at(b);
  }

  public int tree(int root, int set, int what) {
    if (!isSetOfBooks(set) || !isIn(set, root)) {
      return UNKNOWN;
    }
    if (what < 0 || what > 1) {
      return OUTSIDE;
    }
    growTree(root, set);
    return what == 0 ? leastTree.sum : astray(root, set);
  }

  // ---- explained

  public long explained(int b, int w) {
    Book book = bookAt(b);
    if (book == null) {
      return UNKNOWN;
    }
    return isWord(w) ? book.explainersOf(1L << w) : OUTSIDE;
  }

  public int steps(int b, int w, int v) {
    Book book = bookAt(b);
    if (book == null) {
      return UNKNOWN;
    }
    return isWord(w) && isWord(v) ? book.stepsBetween(w, v) : OUTSIDE;
  }

  public long round(int b) {
    Book book = bookAt(b);
    if (book == null) {
      return UNKNOWN;
    }
    long set = 0;
    for (int w = 0; w <= LAST_WORD; w++) {
      if (book.stepsBetween(w, w) != NONE) {
        set |= 1L << w;
      }
    }
    return set;
  }

  // ---- what the calls share

  private Book bookAt(int b) {
    return b >= 0 && b < bookCount && b < books.length ? books[b] : null;
  }

  /** The place for the next book, null when there is none left. */
  private Book freshBook() {
    return bookCount >= 0 && bookCount < books.length ? books[bookCount] : null;
  }

  private Hand handAt(int h) {
    return h >= 0 && h < hands.length ? hands[h] : null;
  }

  /** Empties the told text, keeps where its fault is, and answers the fault's number. */
  private int endReading() {
    told.bytes.clear();
    faultAt = told.faultAt;
    return told.faultNumber;
  }

  private int copyCount() {
    int copies = 0;
    for (int b = 0; b < bookCount; b++) {
      Book book = bookAt(b);
      if (book != null && book.exemplar != NONE) {
        copies++;
      }
    }
    return copies;
  }

  private boolean isSetOfBooks(int set) {
    return set >>> bookCount == 0;
  }

  private static boolean isIn(int set, int b) {
    return b >= 0 && b < MOST_BOOKS && (set >> b & 1) == 1;
  }

  private static boolean isWord(int w) {
    return w >= 0 && w <= LAST_WORD;
  }

  private void hearWitnesses(int base, int set) {
    Book one = bookAt(base);
    if (one == null) {
      return;
    }
    witnesses.begin(base, set, one.text.length());
    for (int b = 0; b < bookCount; b++) {
      Book other = bookAt(b);
      if (other != null && (b == base || isIn(set, b))) {
        alignment.lay(one.text, other.text);
        for (int i = 0; i < one.text.length(); i++) {
          witnesses.hear(b, i, other.text.at(alignment.partners.at(i)));
        }
      }
    }
  }

  private void growTree(int root, int set) {
    leastTree.begin();
    for (int a = 0; a < bookCount; a++) {
      for (int b = 0; b < a; b++) {
        Book one = bookAt(a);
        Book other = bookAt(b);
        if (one != null && other != null && isIn(set, a) && isIn(set, b)) {
          leastTree.tellDistance(a, b, alignment.leastCost(one.text, other.text));
        }
      }
    }
    leastTree.grow(root, set);
  }

  private int astray(int root, int set) {
    int astray = 0;
    for (int b = 0; b < bookCount; b++) {
      Book book = bookAt(b);
      if (book != null && b != root && isIn(set, b) && leastTree.parents.at(b) != book.exemplar) {
        astray++;
      }
    }
    return astray;
  }

  /** A row of numbers in a room of a told size; what does not fit or is not there is left alone. */
  private static final class Row {
    private final int[] cells;
    private int size = 0;

    Row(int room) {
      cells = new int[room > 0 ? room : 0];
    }

    int length() {
      return size;
    }

    boolean has(int i) {
      return i >= 0 && i < size && i < cells.length;
    }

    int at(int i) {
      return i >= 0 && i < size && i < cells.length ? cells[i] : NONE;
    }

    void put(int i, int value) {
      if (i >= 0 && i < size && i < cells.length) {
        cells[i] = value;
      }
    }

    void add(int value) {
      if (size >= 0 && size < cells.length) {
        cells[size] = value;
        size++;
      }
    }

    void clear() {
      size = 0;
    }

    void fill(int newSize, int value) {
      clear();
      for (int i = 0; i < newSize; i++) {
        add(value);
      }
    }

    void takeFrom(Row other) {
      int newSize = Math.min(other.size, Math.min(other.cells.length, cells.length));
      for (int i = 0; i < newSize; i++) {
        cells[i] = other.cells[i];
      }
      size = newSize;
    }

    boolean holds(int value) {
      for (int i = 0; i < size; i++) {
        if (at(i) == value) {
          return true;
        }
      }
      return false;
    }

    /** Leaves out the places from .. to. */
    void cut(int from, int to) {
      if (!has(from) || !has(to) || from > to) {
        return;
      }
      int gap = to - from + 1;
      for (int i = to + 1; i < size; i++) {
        put(i - gap, at(i));
      }
      size -= gap;
    }

    /** Puts a row ahead of a place; what stood there goes behind it. */
    void insert(int place, Row other) {
      int gap = other.length();
      int oldSize = size;
      if (place < 0 || place > oldSize || oldSize + gap > cells.length) {
        return;
      }
      size = oldSize + gap;
      for (int i = oldSize - 1; i >= place; i--) {
        put(i + gap, at(i));
      }
      for (int k = 0; k < gap; k++) {
        put(place + k, other.at(k));
      }
    }
  }

  /** A gloss, with the span that it is on: where it begins and ends in its host's row. */
  private static final class Gloss {
    private final Row row = new Row(ROOM_BESIDE);
    private int kind = ABOVE;
    private int host = NONE;
    private int first = 0;
    private int last = 0;
    private boolean gone = false;

    void takeFrom(Gloss other) {
      row.takeFrom(other.row);
      kind = other.kind;
      host = other.host;
      first = other.first;
      last = other.last;
      gone = other.gone;
    }

    boolean isOnText() {
      return !gone && host == NONE;
    }

    /** No word is in two spans, so that the beginning tells the span. */
    boolean sharesSpan(Gloss other) {
      return host == other.host && first == other.first;
    }

    boolean covers(int place) {
      return first <= place && place <= last;
    }

    int lemmaLength() {
      return last - first + 1;
    }

    void shift(int by) {
      first += by;
      last += by;
    }
  }

  /**
   * A book. Its glosses are numbered as they are printed; a host has a lower number than what is on
   * its row. Glosses may be gone, with the numbers as they were, until numberAnew().
   */
  private static final class Book {
    private final Row text = new Row(MOST_WORDS);
    private final Gloss[] glosses = new Gloss[MOST_GLOSSES];
    private final Row newNumbers = new Row(MOST_GLOSSES);
    private final Row chances = new Row(HABITS);
    private final Row takes = new Row(HABITS);
    private int glossCount = 0;
    private int exemplar = NONE;
    private int scribe = NONE;

    Book() {
      for (int g = 0; g < glosses.length; g++) {
        glosses[g] = new Gloss();
      }
    }

    void clear() {
      text.clear();
      glossCount = 0;
      exemplar = NONE;
      scribe = NONE;
      chances.fill(HABITS, 0);
      takes.fill(HABITS, 0);
    }

    void takeFrom(Book other) {
      clear();
      text.takeFrom(other.text);
      for (int g = 0; g < other.glossCount; g++) {
        Gloss gloss = other.glossAt(g);
        Gloss place = g < glosses.length ? glosses[g] : null;
        if (gloss != null && place != null) {
          place.takeFrom(gloss);
          glossCount = g + 1;
        }
      }
    }

    Gloss glossAt(int g) {
      return g >= 0 && g < glossCount && g < glosses.length ? glosses[g] : null;
    }

    /** A new gloss with an empty row: its number. */
    int addGloss(int host, int first, int last) {
      Gloss gloss = glossCount >= 0 && glossCount < glosses.length ? glosses[glossCount] : null;
      if (gloss == null) {
        return NONE;
      }
      gloss.row.clear();
      gloss.kind = ABOVE;
      gloss.host = host;
      gloss.first = first;
      gloss.last = last;
      gloss.gone = false;
      glossCount++;
      return glossCount - 1;
    }

    /** The row of a gloss; of NONE the text. */
    Row rowOf(int host) {
      Gloss gloss = glossAt(host);
      return gloss == null ? text : gloss.row;
    }

    int depthOf(int g) {
      int depth = 0;
      Gloss gloss = glossAt(g);
      while (gloss != null && depth <= MOST_DEPTH) {
        depth++;
        gloss = glossAt(gloss.host);
      }
      return depth;
    }

    int orderInSpan(int g) {
      Gloss gloss = glossAt(g);
      int order = 0;
      for (int h = 0; h < g; h++) {
        Gloss other = glossAt(h);
        if (gloss != null && other != null && other.sharesSpan(gloss)) {
          order++;
        }
      }
      return order;
    }

    int greatestDepth() {
      int greatest = 0;
      for (int g = 0; g < glossCount; g++) {
        greatest = Math.max(greatest, depthOf(g));
      }
      return greatest;
    }

    int spanCount() {
      int spans = 0;
      for (int g = 0; g < glossCount; g++) {
        if (orderInSpan(g) == 0) {
          spans++;
        }
      }
      return spans;
    }

    int aboveCount() {
      int above = 0;
      for (int g = 0; g < glossCount; g++) {
        Gloss gloss = glossAt(g);
        if (gloss != null && gloss.kind == ABOVE) {
          above++;
        }
      }
      return above;
    }

    int rowWords() {
      int words = 0;
      for (int g = 0; g < glossCount; g++) {
        words += rowOf(g).length();
      }
      return words;
    }

    boolean isInSpanOfText(int place) {
      for (int g = 0; g < glossCount; g++) {
        Gloss gloss = glossAt(g);
        if (gloss != null && gloss.isOnText() && gloss.covers(place)) {
          return true;
        }
      }
      return false;
    }

    boolean isAloneOnText(Gloss gloss) {
      int sharing = 0;
      for (int g = 0; g < glossCount; g++) {
        Gloss other = glossAt(g);
        if (other != null && other.isOnText() && other.sharesSpan(gloss)) {
          sharing++;
        }
      }
      return sharing == 1;
    }

    /** The gloss goes, with all on its row. */
    void takeAway(int g) {
      Gloss gloss = glossAt(g);
      if (gloss == null) {
        return;
      }
      gloss.gone = true;
      for (int h = g + 1; h < glossCount; h++) {
        Gloss other = glossAt(h);
        Gloss host = other == null ? null : glossAt(other.host);
        if (other != null && host != null && host.gone) {
          other.gone = true;
        }
      }
    }

    /** Closes the gaps of what is gone; order as printed is order of numbers, whatever went. */
    void numberAnew() {
      newNumbers.fill(glossCount, NONE);
      int kept = 0;
      for (int g = 0; g < glossCount; g++) {
        Gloss gloss = glossAt(g);
        Gloss place = glossAt(kept);
        if (gloss != null && place != null && !gloss.gone) {
          newNumbers.put(g, kept);
          place.takeFrom(gloss);
          place.host = newNumbers.at(place.host);
          kept++;
        }
      }
      glossCount = kept;
    }

    /** Prints the book; no gloss of it may be gone. */
    void printTo(Row out) {
      out.clear();
      printRow(NONE, 0, out, 0);
    }

    /** Prints a host's row; next is the first gloss not yet printed: answers the same behind it. */
    private int printRow(int host, int next, Row out, int depth) {
      if (depth > MOST_DEPTH) {
        return next;
      }
      Row row = rowOf(host);
      for (int i = 0; i < row.length(); i++) {
        Gloss gloss = glossAt(next);
        if (gloss != null && gloss.host == host && gloss.first == i && gloss.last >= i) {
          next = printSpan(gloss, next, out, depth);
          i = gloss.last;
        } else {
          printNumber(row.at(i), out);
        }
      }
      return next;
    }

    private int printSpan(Gloss opening, int next, Row out, int depth) {
      Row row = rowOf(opening.host);
      out.add('[');
      for (int i = opening.first; i <= opening.last && i < row.length(); i++) {
        printNumber(row.at(i), out);
      }
      for (int turn = 0; turn < MOST_GLOSSES; turn++) {
        Gloss gloss = glossAt(next);
        if (gloss == null || !gloss.sharesSpan(opening)) {
          break;
        }
        out.add('|');
        out.add(gloss.kind == ABOVE ? 'a' : 'b');
        next = printRow(next, next + 1, out, depth + 1);
      }
      out.add(']');
      return next;
    }

    private static void printNumber(int number, Row out) {
      if (Told.isFigure(out.at(out.length() - 1))) {
        out.add(' ');
      }
      if (number >= 10) {
        out.add('0' + number / 10);
      }
      out.add('0' + number % 10);
    }

    /** The words by which some word of a set is explained. */
    long explainersOf(long words) {
      long set = 0;
      for (int g = 0; g < glossCount; g++) {
        Gloss gloss = glossAt(g);
        if (gloss != null && gloss.lemmaLength() == 1 && gloss.row.length() == 1) {
          int lemma = rowOf(gloss.host).at(gloss.first);
          int explainer = gloss.row.at(0);
          if (isWord(lemma) && isWord(explainer) && (words >>> lemma & 1L) == 1L) {
            set |= 1L << explainer;
          }
        }
      }
      return set;
    }

    int stepsBetween(int w, int v) {
      long seen = 0;
      long front = 1L << w;
      for (int steps = 1; steps <= LAST_WORD + 1 && front != 0; steps++) {
        front = explainersOf(front) & ~seen;
        if ((front >>> v & 1L) == 1L) {
          return steps;
        }
        seen |= front;
      }
      return NONE;
    }
  }

  /** The told text, read from its beginning, and the first fault found in it. */
  private static final class Told {
    private final Row bytes = new Row(TEXT_BYTES);
    private int at = 0;
    private int tokenAt = 0;
    private int faultNumber = NO_FAULT;
    private int faultAt = NONE;

    void begin() {
      at = 0;
      tokenAt = 0;
      faultNumber = NO_FAULT;
      faultAt = NONE;
    }

    boolean fail(int number, int place) {
      faultNumber = number;
      faultAt = place;
      return false;
    }

    static boolean isFigure(int sign) {
      return sign >= '0' && sign <= '9';
    }

    private static boolean isLetter(int sign) {
      return sign >= 'a' && sign <= 'z';
    }

    /** The next byte that is no blank, where the reading stands then; NONE at the end. */
    int peek() {
      while (at < bytes.length() && bytes.at(at) == ' ') {
        at++;
      }
      return bytes.at(at);
    }

    /** The number that is next; NONE with a fault. */
    int takeNumber(int low, int high) {
      if (!isFigure(peek())) {
        fail(1, at);
        return NONE;
      }
      tokenAt = at;
      int value = 0;
      while (at < bytes.length() && isFigure(bytes.at(at))) {
        // From the third figure on the value is of no use, and would outgrow an int.
        value = at - tokenAt < 2 ? value * 10 + bytes.at(at) - '0' : value;
        at++;
      }
      if (at - tokenAt > 2 || value < low || value > high) {
        fail(2, tokenAt);
        return NONE;
      }
      return value;
    }

    /** The letters side by side that are next, none if there are none: from tokenAt on. */
    void takeLetters() {
      peek();
      tokenAt = at;
      while (at < bytes.length() && isLetter(bytes.at(at))) {
        at++;
      }
    }

    boolean tokenIs(String letters) {
      if (at - tokenAt != letters.length()) {
        return false;
      }
      for (int k = 0; k < letters.length(); k++) {
        if (bytes.at(tokenAt + k) != letters.charAt(k)) {
          return false;
        }
      }
      return true;
    }

    boolean takeSign(int sign) {
      if (peek() != sign) {
        return fail(1, at);
      }
      at++;
      return true;
    }
  }

  /** Reads a book from the told text; the gloss whose row is open knows where it goes on behind. */
  private static final class BookReader {
    private static final int ITEMS = 0;
    private static final int ROW_BEGINS = 1;
    private static final int LEMMA_BEGINS = 2;
    private static final int LEMMA = 3;
    private static final int LETTER = 4;

    private int state = ITEMS;
    private int open = NONE;
    private int lemmaFirst = 0;

    void readBook(Told told, Book book) {
      told.begin();
      book.clear();
      state = ITEMS;
      open = NONE;
      boolean stands = true;
      for (int n = 0; n < TEXT_BYTES && stands && told.peek() != NONE; n++) {
        int sign = told.peek();
        stands = Told.isFigure(sign) ? readWord(told, book) : readSign(sign, told, book);
      }
      if (stands && (state != ITEMS || open != NONE)) {
        told.fail(1, told.at);
      }
    }

    private boolean readWord(Told told, Book book) {
      if (state == LETTER) {
        return told.fail(1, told.at);
      }
      int word = told.takeNumber(0, LAST_WORD);
      if (word == NONE) {
        return false;
      }
      Row row = book.rowOf(open);
      if (row.length() >= roomOf(book.glossAt(open))) {
        return told.fail(3, told.tokenAt);
      }
      row.add(word);
      state = state == LEMMA_BEGINS || state == LEMMA ? LEMMA : ITEMS;
      return true;
    }

    private static int roomOf(Gloss gloss) {
      if (gloss == null) {
        return MOST_WORDS;
      }
      return gloss.kind == ABOVE ? ROOM_ABOVE : ROOM_BESIDE;
    }

    private boolean readSign(int sign, Told told, Book book) {
      boolean stands;
      switch (sign) {
        case '[':
          stands = openSpan(told, book);
          break;
        case '|':
          stands = openGloss(told, book);
          break;
        case ']':
          stands = closeSpan(told, book);
          break;
        case 'a':
          stands = nameKind(ABOVE, told, book);
          break;
        case 'b':
          stands = nameKind(BESIDE, told, book);
          break;
        default:
          stands = told.fail(1, told.at);
          break;
      }
      return stands && told.takeSign(sign);
    }

    private boolean openSpan(Told told, Book book) {
      if (state != ITEMS && state != ROW_BEGINS) {
        return told.fail(1, told.at);
      }
      lemmaFirst = book.rowOf(open).length();
      state = LEMMA_BEGINS;
      return true;
    }

    private boolean openGloss(Told told, Book book) {
      Gloss sibling = state == ITEMS ? book.glossAt(open) : null;
      if (sibling == null && state != LEMMA) {
        return told.fail(1, told.at);
      }
      if (book.glossCount >= MOST_GLOSSES) {
        return told.fail(4, told.at);
      }
      int host = sibling == null ? open : sibling.host;
      if (book.depthOf(host) >= MOST_DEPTH) {
        return told.fail(5, told.at);
      }
      int first = sibling == null ? lemmaFirst : sibling.first;
      int last = sibling == null ? book.rowOf(host).length() - 1 : sibling.last;
      open = book.addGloss(host, first, last);
      state = LETTER;
      return true;
    }

    private boolean nameKind(int kind, Told told, Book book) {
      Gloss gloss = book.glossAt(open);
      if (state != LETTER || gloss == null) {
        return told.fail(1, told.at);
      }
      gloss.kind = kind;
      state = ROW_BEGINS;
      return true;
    }

    private boolean closeSpan(Told told, Book book) {
      Gloss gloss = book.glossAt(open);
      if (state != ITEMS || gloss == null) {
        return told.fail(1, told.at);
      }
      open = gloss.host;
      return true;
    }
  }

  /** A hand: its habits, each with the number of chances of which the last is taken. */
  private static final class Hand {
    private final Row from = new Row(MOST_FORS);
    private final Row to = new Row(MOST_FORS);
    private final Row forEach = new Row(MOST_FORS);
    private final Row each = new Row(HABITS);
    private int reach = NONE;
    private int way = NONE;

    Hand() {
      each.fill(HABITS, NONE);
    }

    void clear() {
      from.clear();
      to.clear();
      forEach.clear();
      each.fill(HABITS, NONE);
      reach = NONE;
      way = NONE;
    }

    void takeFrom(Hand other) {
      from.takeFrom(other.from);
      to.takeFrom(other.to);
      forEach.takeFrom(other.forEach);
      each.takeFrom(other.each);
      reach = other.reach;
      way = other.way;
    }

    boolean hasNoRoomFor(int clause) {
      return clause == FOR ? from.length() >= MOST_FORS : each.at(clause) != NONE;
    }

    int clauses() {
      int clauses = from.length();
      for (int habit = SKIP; habit <= MOVE; habit++) {
        if (each.at(habit) != NONE) {
          clauses++;
        }
      }
      return clauses;
    }
  }

  /** Reads the habits of a hand from the told text. */
  private static final class HandReader {
    private static final int MOST_REACH = 20;
    private static final int MOST_EACH = 99;

    static void readHand(Told told, Hand hand) {
      told.begin();
      hand.clear();
      boolean stands = true;
      for (int n = 0; n < HAND_BYTES && stands && told.peek() != NONE; n++) {
        stands = readClause(told, hand);
      }
    }

    private static boolean readClause(Told told, Hand hand) {
      told.takeLetters();
      int clause = clauseTold(told);
      if (clause == NONE) {
        return told.fail(1, told.tokenAt);
      }
      if (hand.hasNoRoomFor(clause)) {
        return told.fail(3, told.tokenAt);
      }
      boolean stands = clause == FOR ? readFor(told, hand) : readHabit(clause, told, hand);
      return stands && told.takeSign(';');
    }

    private static int clauseTold(Told told) {
      for (int clause = FOR; clause <= MOVE; clause++) {
        if (told.tokenIs(clauseName(clause))) {
          return clause;
        }
      }
      return NONE;
    }

    private static String clauseName(int clause) {
      switch (clause) {
        case FOR:
          return "for";
        case SKIP:
          return "skip";
        case TURN:
          return "turn";
        case INTO:
          return "into";
        case DROP:
          return "drop";
        default:
          return "move";
      }
    }

    private static boolean readFor(Told told, Hand hand) {
      int from = told.takeNumber(0, LAST_WORD);
      if (from == NONE) {
        return false;
      }
      if (hand.from.holds(from)) {
        return told.fail(3, told.tokenAt);
      }
      int to = told.takeNumber(0, LAST_WORD);
      if (to == NONE) {
        return false;
      }
      if (to == from) {
        return told.fail(3, told.tokenAt);
      }
      int each = told.takeNumber(1, MOST_EACH);
      if (each == NONE) {
        return false;
      }
      hand.from.add(from);
      hand.to.add(to);
      hand.forEach.add(each);
      return true;
    }

    private static boolean readHabit(int clause, Told told, Hand hand) {
      if (clause == SKIP) {
        hand.reach = told.takeNumber(1, MOST_REACH);
        if (hand.reach == NONE) {
          return false;
        }
      }
      if (clause == INTO) {
        told.takeLetters();
        hand.way = wayTold(told);
        if (hand.way == NONE) {
          return told.fail(1, told.tokenAt);
        }
      }
      int each = told.takeNumber(1, MOST_EACH);
      hand.each.put(clause, each);
      return each != NONE;
    }

    private static int wayTold(Told told) {
      for (int way = 0; way < WAYS; way++) {
        if (told.tokenIs(wayName(way))) {
          return way;
        }
      }
      return NONE;
    }

    private static String wayName(int way) {
      switch (way) {
        case AHEAD:
          return "ahead";
        case BEHIND:
          return "behind";
        default:
          return "instead";
      }
    }
  }

  /** Changes a new copy, which is like its exemplar at first, by the habits of a hand. */
  private static final class Scribe {
    private final Row forChances = new Row(MOST_FORS);

    void write(Book copy, Hand hand) {
      putForOthers(copy, hand);
      if (hand.each.at(SKIP) != NONE) {
        skip(copy, hand);
      }
      if (hand.each.at(TURN) != NONE) {
        turn(copy, hand);
      }
      if (hand.each.at(INTO) != NONE) {
        slipIn(copy, hand);
      }
      if (hand.each.at(DROP) != NONE) {
        drop(copy, hand);
      }
      if (hand.each.at(MOVE) != NONE) {
        move(copy, hand);
      }
      copy.numberAnew();
    }

    /** Counts a chance: is it taken? */
    private static boolean chance(int habit, Book copy, Hand hand) {
      return isTaken(habit, copy.chances.at(habit) + 1, hand.each.at(habit), copy);
    }

    private static boolean isTaken(int habit, int nth, int each, Book copy) {
      copy.chances.put(habit, copy.chances.at(habit) + 1);
      if (each <= 0 || nth % each != 0) {
        return false;
      }
      copy.takes.put(habit, copy.takes.at(habit) + 1);
      return true;
    }

    private void putForOthers(Book copy, Hand hand) {
      forChances.fill(hand.from.length(), 0);
      putForOthersIn(copy.text, copy, hand);
      for (int g = 0; g < copy.glossCount; g++) {
        putForOthersIn(copy.rowOf(g), copy, hand);
      }
    }

    private void putForOthersIn(Row row, Book copy, Hand hand) {
      for (int i = 0; i < row.length(); i++) {
        int word = row.at(i);
        for (int k = 0; k < hand.from.length(); k++) {
          if (hand.from.at(k) == word) {
            int nth = forChances.at(k) + 1;
            forChances.put(k, nth);
            if (isTaken(FOR, nth, hand.forEach.at(k), copy)) {
              row.put(i, hand.to.at(k));
            }
          }
        }
      }
    }

    private static void skip(Book copy, Hand hand) {
      int i = 0;
      // Each look goes on by a place or leaves one out.
      for (int look = 0; look < MOST_WORDS && i < copy.text.length(); look++) {
        int like = nextLike(copy.text, i, hand.reach);
        if (like != NONE && chance(SKIP, copy, hand)) {
          leaveOut(copy, i + 1, like);
        } else {
          i++;
        }
      }
    }

    private static int nextLike(Row text, int i, int reach) {
      for (int k = i + 1; k <= i + reach && k < text.length(); k++) {
        if (text.at(k) == text.at(i)) {
          return k;
        }
      }
      return NONE;
    }

    private static void leaveOut(Book copy, int from, int to) {
      copy.text.cut(from, to);
      for (int g = 0; g < copy.glossCount; g++) {
        Gloss gloss = copy.glossAt(g);
        if (gloss != null && gloss.isOnText()) {
          int first = placeLeft(gloss.first, from, to);
          int behind = placeLeft(gloss.last + 1, from, to);
          gloss.first = first;
          gloss.last = behind - 1;
          if (first == behind) {
            copy.takeAway(g);
          }
        }
      }
    }

    /** How many of the places ahead of one are left without from .. to. */
    private static int placeLeft(int place, int from, int to) {
      if (place <= from) {
        return place;
      }
      return place <= to ? from : place - (to - from + 1);
    }

    private static void turn(Book copy, Hand hand) {
      Row text = copy.text;
      for (int i = 0; i + 1 < text.length(); i++) {
        int word = text.at(i);
        int next = text.at(i + 1);
        boolean free = !copy.isInSpanOfText(i) && !copy.isInSpanOfText(i + 1);
        if (word != next && free && chance(TURN, copy, hand)) {
          text.put(i, next);
          text.put(i + 1, word);
          i++;
        }
      }
    }

    private static void slipIn(Book copy, Hand hand) {
      for (int g = 0; g < copy.glossCount; g++) {
        Gloss gloss = copy.glossAt(g);
        if (gloss != null && gloss.isOnText() && gloss.kind == ABOVE) {
          int left = hand.way == INSTEAD ? gloss.lemmaLength() : 0;
          int length = copy.text.length() - left + gloss.row.length();
          if (length <= MOST_WORDS && chance(INTO, copy, hand)) {
            slipOne(copy, gloss, hand.way);
            copy.takeAway(g);
          }
        }
      }
    }

    private static void slipOne(Book copy, Gloss gloss, int way) {
      int first = gloss.first;
      int last = gloss.last;
      int length = gloss.row.length();
      switch (way) {
        case AHEAD:
          shiftSpans(copy, first, length);
          copy.text.insert(first, gloss.row);
          break;
        case BEHIND:
          shiftSpans(copy, last + 1, length);
          copy.text.insert(last + 1, gloss.row);
          break;
        default:
          shiftSpans(copy, last + 1, length - gloss.lemmaLength());
          stretchSpan(copy, first, first + length - 1);
          copy.text.cut(first, last);
          copy.text.insert(first, gloss.row);
          break;
      }
    }

    /** Shifts the spans of the text that begin at a place or behind it. */
    private static void shiftSpans(Book copy, int place, int by) {
      for (int g = 0; g < copy.glossCount; g++) {
        Gloss gloss = copy.glossAt(g);
        if (gloss != null && gloss.isOnText() && gloss.first >= place) {
          gloss.shift(by);
        }
      }
    }

    private static void stretchSpan(Book copy, int first, int last) {
      for (int g = 0; g < copy.glossCount; g++) {
        Gloss gloss = copy.glossAt(g);
        if (gloss != null && gloss.isOnText() && gloss.first == first) {
          gloss.last = last;
        }
      }
    }

    private static void drop(Book copy, Hand hand) {
      for (int g = 0; g < copy.glossCount; g++) {
        Gloss gloss = copy.glossAt(g);
        if (gloss != null && !gloss.gone && chance(DROP, copy, hand)) {
          copy.takeAway(g);
        }
      }
    }

    private static void move(Book copy, Hand hand) {
      for (int g = 0; g < copy.glossCount; g++) {
        Gloss gloss = copy.glossAt(g);
        if (gloss != null && canMove(copy, gloss) && chance(MOVE, copy, hand)) {
          gloss.shift(1);
        }
      }
    }

    private static boolean canMove(Book copy, Gloss gloss) {
      return gloss.isOnText()
          && gloss.kind == BESIDE
          && gloss.lemmaLength() == 1
          && copy.isAloneOnText(gloss)
          && copy.text.has(gloss.last + 1)
          && !copy.isInSpanOfText(gloss.last + 1);
    }
  }

  /** Two texts beside one another at the least cost. */
  private static final class Alignment {
    private static final int SIDE = MOST_WORDS + 1;

    /** At i * SIDE + j: the least cost of what is left from place i of a and place j of b on. */
    private final int[] costs = new int[SIDE * SIDE];

    /** By places of a the place of b beside it, or NONE; and the other way round. */
    private final Row partners = new Row(MOST_WORDS);

    private final Row sources = new Row(MOST_WORDS);

    int leastCost(Row a, Row b) {
      fillCosts(a, b);
      return costAt(0, 0);
    }

    void lay(Row a, Row b) {
      fillCosts(a, b);
      partners.fill(a.length(), NONE);
      sources.fill(b.length(), NONE);
      int i = 0;
      int j = 0;
      for (int step = 0; step < 2 * MOST_WORDS && i < a.length(); step++) {
        int here = costAt(i, j);
        int unlike = a.at(i) == b.at(j) ? 0 : 1;
        if (b.has(j) && here == costAt(i + 1, j + 1) + unlike) {
          partners.put(i, j);
          sources.put(j, i);
          i++;
          j++;
        } else if (here == costAt(i + 1, j) + 1) {
          i++;
        } else {
          j++;
        }
      }
    }

    /** Have the words of a gloss on a slipped into b, ahead of its lemma or behind it? */
    boolean hasSlipped(Gloss gloss, Row b) {
      int first = partners.at(gloss.first);
      int last = partners.at(gloss.last);
      return first != NONE && isPutAt(first - gloss.row.length(), gloss.row, b)
          || last != NONE && isPutAt(last + 1, gloss.row, b);
    }

    private boolean isPutAt(int from, Row row, Row b) {
      for (int k = 0; k < row.length(); k++) {
        if (!b.has(from + k) || b.at(from + k) != row.at(k) || sources.at(from + k) != NONE) {
          return false;
        }
      }
      return true;
    }

    private int costAt(int i, int j) {
      return i >= 0 && i < SIDE && j >= 0 && j < SIDE ? costs[i * SIDE + j] : 0;
    }

    private void setCost(int i, int j, int cost) {
      if (i >= 0 && i < SIDE && j >= 0 && j < SIDE) {
        costs[i * SIDE + j] = cost;
      }
    }

    private void fillCosts(Row a, Row b) {
      for (int j = 0; j <= b.length(); j++) {
        setCost(a.length(), j, b.length() - j);
      }
      for (int i = a.length() - 1; i >= 0; i--) {
        fillCostsFrom(i, a, b);
      }
    }

    private void fillCostsFrom(int i, Row a, Row b) {
      int word = a.at(i);
      int right = a.length() - i;
      int across = costAt(i + 1, b.length());
      setCost(i, b.length(), right);
      for (int j = b.length() - 1; j >= 0; j--) {
        int below = costAt(i + 1, j);
        int together = word == b.at(j) ? across : across + 1;
        right = Math.min(together, Math.min(below, right) + 1);
        setCost(i, j, right);
        across = below;
      }
    }
  }

  /** What witnesses have at the places of a base. */
  private static final class Witnesses {
    private static final int PAST_READINGS = LAST_WORD + 1;

    private final Row readings = new Row(MOST_BOOKS * MOST_WORDS);
    private final Row groups = new Row(MOST_GROUPS);
    private final Row result = new Row(MOST_GROUPS);
    private int base = 0;
    private int set = 0;
    private int places = 0;

    void begin(int newBase, int newSet, int newPlaces) {
      base = newBase;
      set = newSet;
      places = newPlaces;
      readings.fill(MOST_BOOKS * MOST_WORDS, NONE);
    }

    void hear(int b, int place, int reading) {
      readings.put(b * MOST_WORDS + place, reading);
    }

    private int heard(int b, int place) {
      return readings.at(b * MOST_WORDS + place);
    }

    /** How many have a reading, the base among them. */
    int votes(int place, int reading) {
      int votes = 0;
      for (int b = 0; b < MOST_BOOKS; b++) {
        if ((b == base || isIn(set, b)) && heard(b, place) == reading) {
          votes++;
        }
      }
      return votes;
    }

    int mostAt(int place) {
      int winner = heard(base, place);
      int votes = votes(place, winner);
      int reading = nextReading(place, NONE - 1);
      for (int turn = 0; turn < MOST_BOOKS && reading < PAST_READINGS; turn++) {
        int others = votes(place, reading);
        // Only more votes win: so of like ones it stays the base's, else the least.
        if (others > votes) {
          winner = reading;
          votes = others;
        }
        reading = nextReading(place, reading);
      }
      return winner;
    }

    /** The least reading of the witnesses that is above another. */
    private int nextReading(int place, int above) {
      int least = PAST_READINGS;
      for (int b = 0; b < MOST_BOOKS; b++) {
        if (isIn(set, b) && heard(b, place) > above) {
          least = Math.min(least, heard(b, place));
        }
      }
      return least;
    }

    Row restoredText() {
      result.clear();
      for (int place = 0; place < places; place++) {
        int winner = mostAt(place);
        if (winner != NONE) {
          result.add(winner);
        }
      }
      return result;
    }

    Row findGroups() {
      groups.clear();
      for (int place = 0; place < places; place++) {
        int reading = nextReading(place, NONE - 1);
        for (int turn = 0; turn < MOST_BOOKS && reading < PAST_READINGS; turn++) {
          int members = membersOf(place, reading);
          boolean errs = reading != heard(base, place);
          if (errs && Integer.bitCount(members) >= 2 && !groups.holds(members)) {
            groups.add(members);
          }
          reading = nextReading(place, reading);
        }
      }
      return groups;
    }

    private int membersOf(int place, int reading) {
      int members = 0;
      for (int b = 0; b < MOST_BOOKS; b++) {
        if (isIn(set, b) && heard(b, place) == reading) {
          members |= 1 << b;
        }
      }
      return members;
    }

    private static boolean doClash(int one, int other) {
      return (one & other) != 0 && (one & ~other) != 0 && (other & ~one) != 0;
    }

    int clashingPairs() {
      int pairs = 0;
      for (int i = 0; i < groups.length(); i++) {
        for (int k = 0; k < i; k++) {
          if (doClash(groups.at(i), groups.at(k))) {
            pairs++;
          }
        }
      }
      return pairs;
    }

    Row soundGroups() {
      result.clear();
      for (int i = 0; i < groups.length(); i++) {
        if (isSound(groups.at(i))) {
          result.add(groups.at(i));
        }
      }
      return result;
    }

    private boolean isSound(int one) {
      for (int k = 0; k < groups.length(); k++) {
        if (doClash(one, groups.at(k))) {
          return false;
        }
      }
      return true;
    }
  }

  /** The least tree over the distances that it is told. */
  private static final class Tree {
    private final Row distances = new Row(MOST_BOOKS * MOST_BOOKS);
    private final Row parents = new Row(MOST_BOOKS);
    private int sum = 0;

    void begin() {
      distances.fill(MOST_BOOKS * MOST_BOOKS, 0);
      parents.fill(MOST_BOOKS, NONE);
      sum = 0;
    }

    void tellDistance(int a, int b, int distance) {
      distances.put(a * MOST_BOOKS + b, distance);
      distances.put(b * MOST_BOOKS + a, distance);
    }

    private int apart(int a, int b) {
      return distances.at(a * MOST_BOOKS + b);
    }

    /** Of pairs at a like distance the least book not in the tree comes first, then its host. */
    void grow(int root, int set) {
      int in = 1 << root;
      for (int turn = 0; turn < MOST_BOOKS && in != set; turn++) {
        int next = NONE;
        int host = NONE;
        for (int b = 0; b < MOST_BOOKS; b++) {
          if (isIn(set, b) && !isIn(in, b)) {
            int near = nearest(b, in);
            if (next == NONE || apart(near, b) < apart(host, next)) {
              next = b;
              host = near;
            }
          }
        }
        if (next == NONE) {
          return;
        }
        parents.put(next, host);
        sum += apart(host, next);
        in |= 1 << next;
      }
    }

    /** Of those in the tree the one that is nearest to a book, the least of like ones. */
    private int nearest(int b, int in) {
      int near = NONE;
      for (int k = 0; k < MOST_BOOKS; k++) {
        if (isIn(in, k) && (near == NONE || apart(k, b) < apart(near, b))) {
          near = k;
        }
      }
      return near;
    }
  }
}
