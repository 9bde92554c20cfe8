import java.util.Arrays;

/**
 * A gate for the search of patterns in documents.
 *
 * DOCUMENTS and PATTERNS are never changed once they are made, and neither is a Book that holds
 * them: an ACT makes a new Book that knows the one ahead of it. So undo() and back() only have to
 * turn to another Book, and nothing has to be taken back step by step.
 */
public final class PatternGate {
  public static final int NONE = -1;

  private static final int MOST_DOCUMENTS = 10;
  private static final int MOST_PATTERNS = 8;
  private static final int MOST_LETTERS = 60;
  private static final int MOST_BYTES = 900;
  private static final int MOST_SPOTS = 24;
  private static final int MOST_NESTED = 5;
  private static final int MOST_ROWS = 6;
  private static final int MOST_ROW_LETTERS = 8;
  private static final int MOST_CHOICES = 12;
  /** Each TRIPLE of a CHOICE ends at a SPOT of its own, so there are never more than SPOTS. */
  private static final int MOST_TRIPLES = MOST_SPOTS;
  private static final int MOST_UNDONE = 8;
  private static final int MOST_MARKS = 3;
  private static final int ALPHABET = 26;
  private static final int ALL_TRIPLES = ALPHABET * ALPHABET * ALPHABET;

  private static final int FINE = 0;
  private static final int BAD_NUMBER = 1;
  private static final int NO_SUCH = 2;
  private static final int TOO_MANY = 3;
  private static final int IS_SO = 4;
  private static final int THERE_IS_NONE = 5;
  private static final int BAD_LENGTH = 6;
  private static final int FAULTY = 9;

  private int lastStatus;
  private final int[] tape = new int[MOST_BYTES];
  private int taped;
  private int faultKind = NONE;
  private int faultPlace = NONE;
  private Book book = new Book(new Doc[0], new Pattern[0], null);
  private int undoable;
  private final Book[] markedBooks = new Book[MOST_MARKS];
  private final int[] markedUndoable = new int[MOST_MARKS];
  private int marks;
  private final Reader reader = new Reader();
  private final Compiler compiler = new Compiler();
  private final Walk walk = new Walk();
  /** Rows for what is tried or sorted within one call, made once for all calls. */
  private final int[] paper = new int[MOST_LETTERS];
  private final int[] sorted = new int[MOST_LETTERS];
  private final int[] tally = new int[ALPHABET];

  public PatternGate() {
  }

  public int status() {
    return lastStatus;
  }

  public int feed(int a, int b, int c, int d, int e) {
    if (taped + 20 > MOST_BYTES) {
      return NONE;
    }
    putBytes(a);
    putBytes(b);
    putBytes(c);
    putBytes(d);
    putBytes(e);
    return taped;
  }

  public int load(int n) {
    if (n < 0 || n > taped) {
      return refuse(BAD_NUMBER);
    }
    if (!readTape(n, 0, 0)) {
      return refuse(FAULTY);
    }
    act(bookBehind(new Doc[0], new Pattern[0]));
    return answer(book.docs.length);
  }

  public int more(int n) {
    if (n < 0 || n > taped) {
      return refuse(BAD_NUMBER);
    }
    if (!readTape(n, book.docs.length, book.patterns.length)) {
      return refuse(FAULTY);
    }
    act(bookBehind(book.docs, book.patterns));
    return answer(reader.lines);
  }

  public int fault(int what) {
    if (what == 0) {
      return faultKind;
    }
    return what == 1 ? faultPlace : NONE;
  }

  public int many(int what) {
    switch (what) {
      case 0:
        return answer(book.docs.length);
      case 1:
        return answer(book.patterns.length);
      case 2:
        return answer(book.allLetters());
      case 3:
        return answer(book.allTriples());
      case 4:
        return answer(undoable);
      case 5:
        return answer(marks);
      default:
        return refuse(BAD_NUMBER);
    }
  }

  public int document(int document, int what) {
    if (what < 0 || what > 3) {
      return refuse(BAD_NUMBER);
    }
    Doc doc = book.docAt(document);
    if (doc == null) {
      return refuse(NO_SUCH);
    }
    if (what == 0) {
      return answer(doc.letters.length);
    }
    if (what == 1) {
      return answer(doc.triples.length);
    }
    return answer(what == 2 ? fittingPatterns(doc) : admittingPatterns(document));
  }

  public int letter(int document, int place) {
    if (place < 0) {
      return refuse(BAD_NUMBER);
    }
    Doc doc = book.docAt(document);
    if (doc == null) {
      return refuse(NO_SUCH);
    }
    if (place >= doc.letters.length) {
      return refuse(THERE_IS_NONE);
    }
    return answer(doc.letters[place]);
  }

  public int pattern(int pattern, int what) {
    if (what < 0 || what > 7) {
      return refuse(BAD_NUMBER);
    }
    Pattern found = book.patternAt(pattern);
    if (found == null) {
      return refuse(NO_SUCH);
    }
    switch (what) {
      case 0:
        return answer(found.text.length);
      case 1:
        return answer(found.follow.length);
      case 2:
        return answer(found.choices());
      case 3:
        return answer(found.hasExact ? found.rows.length : NONE);
      case 4:
        return answer(found.canBeEmpty ? 1 : 0);
      case 5:
        return answer(found.fewest);
      case 6:
        return answer(found.unlike.length);
      default:
        return answer(found.depth);
    }
  }

  public int sign(int pattern, int i) {
    if (i < 0) {
      return refuse(BAD_NUMBER);
    }
    Pattern found = book.patternAt(pattern);
    if (found == null) {
      return refuse(NO_SUCH);
    }
    if (i >= found.text.length) {
      return refuse(THERE_IS_NONE);
    }
    return answer(found.text[i]);
  }

  public int exact(int pattern, int i, int k) {
    if (i < 0 || k < 0) {
      return refuse(BAD_NUMBER);
    }
    Pattern found = book.patternAt(pattern);
    if (found == null) {
      return refuse(NO_SUCH);
    }
    if (i >= found.rows.length || k >= Rows.lettersOf(found.rows[i])) {
      return refuse(THERE_IS_NONE);
    }
    return answer(Rows.letterOf(found.rows[i], k));
  }

  public int need(int pattern, int i, int k) {
    if (i < 0 || k < 0) {
      return refuse(BAD_NUMBER);
    }
    Pattern found = book.patternAt(pattern);
    if (found == null) {
      return refuse(NO_SUCH);
    }
    if (i >= found.choices() || k >= found.sizeOf(i)) {
      return refuse(THERE_IS_NONE);
    }
    return answer(found.tripleAt(i, k));
  }

  public int list(int triple, int i) {
    if (!isTriple(triple) || i < 0) {
      return refuse(BAD_NUMBER);
    }
    int left = book.listBits(triple);
    if (i >= Integer.bitCount(left)) {
      return refuse(THERE_IS_NONE);
    }
    for (int k = 0; k < i; k++) {
      left = left & (left - 1);
    }
    return answer(Integer.numberOfTrailingZeros(left));
  }

  public int often(int document, int triple) {
    if (!isTriple(triple)) {
      return refuse(BAD_NUMBER);
    }
    Doc doc = book.docAt(document);
    if (doc == null) {
      return refuse(NO_SUCH);
    }
    return answer(doc.timesOf(triple));
  }

  public int gate(int pattern, int what) {
    if (what < 0 || what > 3) {
      return refuse(BAD_NUMBER);
    }
    Pattern found = book.patternAt(pattern);
    if (found == null) {
      return refuse(NO_SUCH);
    }
    if (what == 2) {
      return answer(fittingDocuments(found));
    }
    walk.through(found, book);
    if (what == 0) {
      return answer(walk.candidates);
    }
    if (what == 1) {
      return answer(walk.leaps);
    }
    return answer(Integer.bitCount(walk.candidates & ~fittingDocuments(found)));
  }

  public int match(int pattern, int document, int what) {
    if (what < 0 || what > 2) {
      return refuse(BAD_NUMBER);
    }
    Pattern found = book.patternAt(pattern);
    Doc doc = book.docAt(document);
    if (found == null || doc == null) {
      return refuse(NO_SUCH);
    }
    if (what == 2) {
      return answer(found.matchesIn(doc));
    }
    int place = found.firstMatchIn(doc);
    if (place == NONE) {
      return refuse(THERE_IS_NONE);
    }
    return answer(what == 0 ? place : found.longestFrom(doc, place));
  }

  public int alive(int pattern, int document, int place) {
    if (place < 0) {
      return refuse(BAD_NUMBER);
    }
    Pattern found = book.patternAt(pattern);
    Doc doc = book.docAt(document);
    if (found == null || doc == null) {
      return refuse(NO_SUCH);
    }
    if (place >= doc.letters.length) {
      return refuse(THERE_IS_NONE);
    }
    return answer(found.aliveBehind(doc, place));
  }

  public int rarest(int pattern) {
    Pattern found = book.patternAt(pattern);
    if (found == null) {
      return refuse(NO_SUCH);
    }
    int rarest = NONE;
    int shortest = MOST_DOCUMENTS + 1;
    for (int i = 0; i < found.unlike.length; i++) {
      int length = Integer.bitCount(book.listBits(found.unlike[i]));
      if (length < shortest) {
        shortest = length;
        rarest = found.unlike[i];
      }
    }
    return rarest == NONE ? refuse(THERE_IS_NONE) : answer(rarest);
  }

  public int within(int pattern, int other) {
    Pattern inner = book.patternAt(pattern);
    Pattern outer = book.patternAt(other);
    if (inner == null || outer == null) {
      return refuse(NO_SUCH);
    }
    for (int i = 0; i < inner.choices(); i++) {
      if (!outer.hasChoiceWithin(inner, i)) {
        return answer(0);
      }
    }
    return answer(1);
  }

  public int put(int document, int place, int letter) {
    if (!isLetter(letter) || place < 0) {
      return refuse(BAD_NUMBER);
    }
    Doc doc = book.docAt(document);
    if (doc == null) {
      return refuse(NO_SUCH);
    }
    if (place >= doc.letters.length) {
      return refuse(THERE_IS_NONE);
    }
    int stood = doc.letters[place];
    if (stood == letter) {
      return refuse(IS_SO);
    }
    int[] letters = doc.letters.clone();
    letters[place] = letter;
    act(book.withDoc(document, Doc.made(letters, sorted)));
    return answer(stood);
  }

  public int let(int document, int place, int letter) {
    if (!isLetter(letter) || place < 0) {
      return refuse(BAD_NUMBER);
    }
    Doc doc = book.docAt(document);
    if (doc == null) {
      return refuse(NO_SUCH);
    }
    int length = doc.letters.length;
    if (place > length) {
      return refuse(THERE_IS_NONE);
    }
    if (length >= MOST_LETTERS) {
      return refuse(BAD_LENGTH);
    }
    int[] letters = new int[length + 1];
    System.arraycopy(doc.letters, 0, letters, 0, place);
    letters[place] = letter;
    System.arraycopy(doc.letters, place, letters, place + 1, length - place);
    act(book.withDoc(document, Doc.made(letters, sorted)));
    return answer(length + 1);
  }

  public int cut(int document, int place, int many) {
    if (place < 0 || many < 1) {
      return refuse(BAD_NUMBER);
    }
    Doc doc = book.docAt(document);
    if (doc == null) {
      return refuse(NO_SUCH);
    }
    int length = doc.letters.length;
    if (place >= length || many > length - place) {
      return refuse(THERE_IS_NONE);
    }
    int left = length - many;
    if (left == 0) {
      return refuse(BAD_LENGTH);
    }
    int[] letters = new int[left];
    System.arraycopy(doc.letters, 0, letters, 0, place);
    System.arraycopy(doc.letters, place + many, letters, place, left - place);
    act(book.withDoc(document, Doc.made(letters, sorted)));
    return answer(left);
  }

  public int copy(int document, int place, int many) {
    if (place < 0 || many < 1) {
      return refuse(BAD_NUMBER);
    }
    Doc doc = book.docAt(document);
    if (doc == null) {
      return refuse(NO_SUCH);
    }
    if (book.docs.length >= MOST_DOCUMENTS) {
      return refuse(TOO_MANY);
    }
    int length = doc.letters.length;
    if (place >= length || many > length - place) {
      return refuse(THERE_IS_NONE);
    }
    int[] letters = Arrays.copyOfRange(doc.letters, place, place + many);
    act(book.withOneMore(Doc.made(letters, sorted)));
    return answer(book.docs.length - 1);
  }

  public int drop(int document) {
    if (book.docAt(document) == null) {
      return refuse(NO_SUCH);
    }
    act(book.withoutDoc(document));
    return answer(book.docs.length);
  }

  public int forget(int pattern) {
    if (book.patternAt(pattern) == null) {
      return refuse(NO_SUCH);
    }
    act(book.withoutPattern(pattern));
    return answer(book.patterns.length);
  }

  public int undo() {
    Book earlier = book.earlier;
    if (undoable <= 0 || earlier == null) {
      return refuse(THERE_IS_NONE);
    }
    book = earlier;
    undoable--;
    return answer(undoable);
  }

  public int mark() {
    if (marks >= MOST_MARKS) {
      return refuse(TOO_MANY);
    }
    markedBooks[marks] = book;
    markedUndoable[marks] = undoable;
    marks++;
    return answer(marks);
  }

  public int back() {
    if (marks <= 0 || marks > MOST_MARKS) {
      return refuse(THERE_IS_NONE);
    }
    Book marked = markedBooks[marks - 1];
    if (marked == null) {
      return refuse(THERE_IS_NONE);
    }
    marks--;
    book = marked;
    undoable = markedUndoable[marks];
    return answer(marks);
  }

  public int would(int document, int place, int letter) {
    if (!isLetter(letter) || place < 0) {
      return refuse(BAD_NUMBER);
    }
    Doc doc = book.docAt(document);
    if (doc == null) {
      return refuse(NO_SUCH);
    }
    int length = doc.letters.length;
    if (place >= length || length > paper.length) {
      return refuse(THERE_IS_NONE);
    }
    System.arraycopy(doc.letters, 0, paper, 0, length);
    paper[place] = letter;
    return answer(Doc.sortTriples(paper, length, sorted) - doc.triples.length);
  }

  public int best(int document, int place) {
    if (place < 0) {
      return refuse(BAD_NUMBER);
    }
    Doc doc = book.docAt(document);
    if (doc == null) {
      return refuse(NO_SUCH);
    }
    if (place >= doc.letters.length) {
      return refuse(THERE_IS_NONE);
    }
    Arrays.fill(tally, 0);
    for (int i = 0; i < book.patterns.length; i++) {
      Pattern found = book.patternAt(i);
      if (found != null) {
        found.tallyLetters(doc, place, tally);
      }
    }
    int best = 0;
    for (int i = 1; i < ALPHABET; i++) {
      if (tally[i] > tally[best]) {
        best = i;
      }
    }
    return answer(best);
  }

  private int answer(int value) {
    lastStatus = FINE;
    return value;
  }

  private int refuse(int status) {
    lastStatus = status;
    return NONE;
  }

  private static boolean isLetter(int number) {
    return number >= 0 && number < ALPHABET;
  }

  private static boolean isTriple(int number) {
    return number >= 0 && number < ALL_TRIPLES;
  }

  private static boolean isSmall(int sign) {
    return sign >= 'a' && sign <= 'z';
  }

  private void putBytes(int four) {
    for (int shift = 24; shift >= 0; shift -= 8) {
      if (taped < MOST_BYTES) {
        tape[taped] = (four >>> shift) & 255;
        taped++;
      }
    }
  }

  /** Reads the BOOK, keeps what fault() tells, and empties the tape, FAULT or not. */
  private boolean readTape(int n, int docs, int patterns) {
    boolean fine = reader.read(tape, n, docs, patterns);
    faultKind = reader.faultKind;
    faultPlace = reader.faultPlace;
    taped = 0;
    return fine;
  }

  /** The bytes still stand on the emptied tape: what the reader found is taken from there. */
  private Book bookBehind(Doc[] docs, Pattern[] patterns) {
    Doc[] newDocs = new Doc[docs.length + reader.newDocs];
    Pattern[] newPatterns = new Pattern[patterns.length + reader.newPatterns];
    System.arraycopy(docs, 0, newDocs, 0, docs.length);
    System.arraycopy(patterns, 0, newPatterns, 0, patterns.length);
    int doc = docs.length;
    int pattern = patterns.length;
    for (int i = 0; i < reader.lines; i++) {
      int from = reader.begins[i];
      int to = reader.ends[i];
      if (reader.isPattern[i] && pattern < newPatterns.length) {
        newPatterns[pattern] = compiler.compile(tape, from, to);
        pattern++;
      } else if (doc < newDocs.length) {
        newDocs[doc] = Doc.told(tape, from, to, sorted);
        doc++;
      }
    }
    return new Book(newDocs, newPatterns, book);
  }

  private void act(Book next) {
    book = next;
    undoable = Math.min(undoable + 1, MOST_UNDONE);
  }

  private int fittingPatterns(Doc doc) {
    int bits = 0;
    for (int i = 0; i < book.patterns.length; i++) {
      Pattern found = book.patternAt(i);
      if (found != null && found.fits(doc)) {
        bits |= 1 << i;
      }
    }
    return bits;
  }

  private int admittingPatterns(int document) {
    int bits = 0;
    for (int i = 0; i < book.patterns.length; i++) {
      Pattern found = book.patternAt(i);
      if (found != null) {
        walk.through(found, book);
        bits |= ((walk.candidates >>> document) & 1) << i;
      }
    }
    return bits;
  }

  private int fittingDocuments(Pattern found) {
    int bits = 0;
    for (int i = 0; i < book.docs.length; i++) {
      Doc doc = book.docAt(i);
      if (doc != null && found.fits(doc)) {
        bits |= 1 << i;
      }
    }
    return bits;
  }

  /** A DOCUMENT; never changed once it is made. */
  private static final class Doc {
    final int[] letters;
    /** The unlike TRIPLES, the least first, so that a LIST can be asked for by halving. */
    final int[] triples;

    private Doc(int[] letters, int[] triples) {
      this.letters = letters;
      this.triples = triples;
    }

    static Doc made(int[] letters, int[] sorted) {
      int many = sortTriples(letters, letters.length, sorted);
      return new Doc(letters, Arrays.copyOf(sorted, many));
    }

    static Doc told(int[] bytes, int from, int to, int[] sorted) {
      int length = Math.max(0, Math.min(to, bytes.length) - from);
      int[] letters = new int[length];
      for (int i = 0; i < length; i++) {
        letters[i] = bytes[from + i] - 'a';
      }
      return made(letters, sorted);
    }

    static int tripleAt(int[] letters, int place) {
      return (letters[place] * ALPHABET + letters[place + 1]) * ALPHABET + letters[place + 2];
    }

    /** Puts the unlike TRIPLES into a row, the least first: how many they are. */
    static int sortTriples(int[] letters, int length, int[] into) {
      int many = 0;
      for (int place = 0; place + 2 < length && place + 2 < letters.length; place++) {
        many = Need.insert(into, many, tripleAt(letters, place));
      }
      return many;
    }

    boolean has(int triple) {
      int low = 0;
      int high = triples.length;
      while (low < high) {
        int middle = (low + high) >>> 1;
        if (triples[middle] < triple) {
          low = middle + 1;
        } else {
          high = middle;
        }
      }
      return low < triples.length && triples[low] == triple;
    }

    int timesOf(int triple) {
      int times = 0;
      for (int place = 0; place + 2 < letters.length; place++) {
        if (tripleAt(letters, place) == triple) {
          times++;
        }
      }
      return times;
    }
  }

  /** All DOCUMENTS and PATTERNS at one time, and what there was ahead of the ACT that made it. */
  private static final class Book {
    final Doc[] docs;
    final Pattern[] patterns;
    final Book earlier;

    Book(Doc[] docs, Pattern[] patterns, Book earlier) {
      this.docs = docs;
      this.patterns = patterns;
      this.earlier = earlier;
    }

    Doc docAt(int i) {
      return i >= 0 && i < docs.length ? docs[i] : null;
    }

    Pattern patternAt(int i) {
      return i >= 0 && i < patterns.length ? patterns[i] : null;
    }

    /** The LIST of a TRIPLE, a bit for each DOCUMENT. */
    int listBits(int triple) {
      int bits = 0;
      for (int i = 0; i < docs.length; i++) {
        if (docs[i] != null && docs[i].has(triple)) {
          bits |= 1 << i;
        }
      }
      return bits;
    }

    int allLetters() {
      int letters = 0;
      for (int i = 0; i < docs.length; i++) {
        letters += docs[i] == null ? 0 : docs[i].letters.length;
      }
      return letters;
    }

    /** Each TRIPLE counts in the first DOCUMENT of its LIST alone, so that it counts once. */
    int allTriples() {
      int triples = 0;
      for (int i = 0; i < docs.length; i++) {
        int length = docs[i] == null ? 0 : docs[i].triples.length;
        for (int k = 0; k < length; k++) {
          if (Integer.numberOfTrailingZeros(listBits(docs[i].triples[k])) == i) {
            triples++;
          }
        }
      }
      return triples;
    }

    Book withDoc(int which, Doc doc) {
      Doc[] next = docs.clone();
      if (which >= 0 && which < next.length) {
        next[which] = doc;
      }
      return new Book(next, patterns, this);
    }

    Book withOneMore(Doc doc) {
      Doc[] next = new Doc[docs.length + 1];
      System.arraycopy(docs, 0, next, 0, docs.length);
      next[docs.length] = doc;
      return new Book(next, patterns, this);
    }

    Book withoutDoc(int which) {
      if (which < 0 || which >= docs.length) {
        return this;
      }
      Doc[] next = new Doc[docs.length - 1];
      System.arraycopy(docs, 0, next, 0, which);
      System.arraycopy(docs, which + 1, next, which, next.length - which);
      return new Book(next, patterns, this);
    }

    Book withoutPattern(int which) {
      if (which < 0 || which >= patterns.length) {
        return this;
      }
      Pattern[] next = new Pattern[patterns.length - 1];
      System.arraycopy(patterns, 0, next, 0, which);
      System.arraycopy(patterns, which + 1, next, which, next.length - which);
      return new Book(docs, next, this);
    }
  }

  /**
   * A PATTERN; never changed once it is made. The matcher goes by sets of SPOTS, as bits: which
   * SPOTS can come first, which last, which behind which, and which take a LETTER.
   */
  private static final class Pattern {
    final int[] text;
    final int depth;
    final boolean canBeEmpty;
    final int fewest;
    final int first;
    final int last;
    final int[] follow;
    final int[] takers;
    final boolean hasExact;
    final long[] rows;
    /** The CHOICES one behind the other; starts says where each begins, and where all end. */
    final int[] triples;
    final int[] starts;
    final int[] unlike;

    Pattern(Part whole, int[] text, int[] follow, int[] takers) {
      this.text = text;
      this.depth = whole.depth;
      this.canBeEmpty = whole.canBeEmpty;
      this.fewest = whole.fewest;
      this.first = whole.first;
      this.last = whole.last;
      this.follow = follow;
      this.takers = takers;
      this.hasExact = whole.hasExact;
      this.rows = whole.hasExact ? whole.rows.inOrder() : new long[0];
      int[] order = whole.need.order();
      this.starts = whole.need.startsBy(order);
      this.triples = whole.need.triplesBy(order, starts);
      this.unlike = Need.unlikeOf(triples);
    }

    int choices() {
      return starts.length - 1;
    }

    int sizeOf(int choice) {
      return choice >= 0 && choice + 1 < starts.length ? starts[choice + 1] - starts[choice] : 0;
    }

    int tripleAt(int choice, int k) {
      int at = choice >= 0 && choice < starts.length ? starts[choice] + k : NONE;
      return at >= 0 && at < triples.length ? triples[at] : NONE;
    }

    boolean hasChoiceWithin(Pattern other, int choice) {
      if (choice < 0 || choice >= other.choices()) {
        return false;
      }
      for (int i = 0; i < choices(); i++) {
        if (Need.isWithin(triples, starts[i], starts[i + 1], other.triples,
            other.starts[choice], other.starts[choice + 1])) {
          return true;
        }
      }
      return false;
    }

    private int takersOf(int letter) {
      return letter >= 0 && letter < takers.length ? takers[letter] : 0;
    }

    private int followersOf(int spots) {
      int next = 0;
      for (int i = 0; i < follow.length; i++) {
        if (((spots >>> i) & 1) != 0) {
          next |= follow[i];
        }
      }
      return next;
    }

    private int leadersTo(int spots) {
      int leaders = 0;
      for (int i = 0; i < follow.length; i++) {
        if ((follow[i] & spots) != 0) {
          leaders |= 1 << i;
        }
      }
      return leaders;
    }

    boolean fits(Doc doc) {
      boolean found = canBeEmpty;
      int spots = 0;
      for (int i = 0; i < doc.letters.length && !found; i++) {
        spots = (first | followersOf(spots)) & takersOf(doc.letters[i]);
        found = (spots & last) != 0;
      }
      return found;
    }

    int aliveBehind(Doc doc, int place) {
      int spots = 0;
      for (int i = 0; i <= place && i < doc.letters.length; i++) {
        spots = (first | followersOf(spots)) & takersOf(doc.letters[i]);
      }
      return spots;
    }

    /** The most LETTERS that it can be from a PLACE on, NONE if it can't be there. */
    int longestFrom(Doc doc, int place) {
      int most = canBeEmpty ? 0 : NONE;
      int open = first;
      for (int i = place; i >= 0 && i < doc.letters.length && open != 0; i++) {
        int spots = open & takersOf(doc.letters[i]);
        if ((spots & last) != 0) {
          most = i - place + 1;
        }
        open = followersOf(spots);
      }
      return most;
    }

    int firstMatchIn(Doc doc) {
      for (int place = 0; place <= doc.letters.length; place++) {
        if (longestFrom(doc, place) != NONE) {
          return place;
        }
      }
      return NONE;
    }

    int matchesIn(Doc doc) {
      int matches = 0;
      int step = 1;
      for (int place = 0; place <= doc.letters.length; place += step) {
        int most = longestFrom(doc, place);
        if (most != NONE) {
          matches++;
        }
        step = Math.max(1, most);
      }
      return matches;
    }

    /**
     * Counts one for each LETTER that, put at a PLACE, makes the DOCUMENT fit. Only that LETTER
     * differs, so what is ahead of it is gone through once from the front, what is behind it once
     * from the end.
     */
    void tallyLetters(Doc doc, int place, int[] tally) {
      boolean anyway = canBeEmpty;
      int closing = last;
      for (int i = doc.letters.length - 1; i > place; i--) {
        int good = takersOf(doc.letters[i]) & closing;
        anyway |= (first & good) != 0;
        closing = last | leadersTo(good);
      }
      int spots = 0;
      for (int i = 0; i < place && i < doc.letters.length; i++) {
        spots = (first | followersOf(spots)) & takersOf(doc.letters[i]);
        anyway |= (spots & last) != 0;
      }
      int open = first | followersOf(spots);
      for (int letter = 0; letter < tally.length; letter++) {
        if (anyway || (open & takersOf(letter) & closing) != 0) {
          tally[letter]++;
        }
      }
    }
  }

  /** The way through the LISTS of a PATTERN: the CANDIDATES, and how many LEAPS it took. */
  private static final class Walk {
    int candidates;
    int leaps;
    private final int[] lists = new int[MOST_TRIPLES];

    void through(Pattern pattern, Book book) {
      candidates = 0;
      leaps = 0;
      for (int i = 0; i < pattern.choices(); i++) {
        int many = Math.min(pattern.sizeOf(i), lists.length);
        if (many == 0) {
          candidates |= (1 << book.docs.length) - 1;
        } else {
          for (int k = 0; k < many; k++) {
            lists[k] = book.listBits(pattern.tripleAt(i, k));
          }
          leapThrough(many);
        }
      }
    }

    private void leapThrough(int many) {
      int at = 0;
      int agreed = 0;
      int which = 0;
      // AT moves on or one LIST more agrees with each LEAP, so this bound is never reached
      int mostLeaps = (MOST_DOCUMENTS + 2) * (many + 1);
      for (int leap = 0; leap < mostLeaps; leap++) {
        leaps++;
        int rest = (lists[which] >>> at) << at;
        if (rest == 0) {
          return;
        }
        int found = Integer.numberOfTrailingZeros(rest);
        agreed = found > at ? 1 : agreed + 1;
        at = found;
        if (agreed == many) {
          candidates |= 1 << at;
          at++;
          agreed = 0;
        }
        which = which + 1 < many ? which + 1 : 0;
      }
    }
  }

  /**
   * A set of at most 6 rows of at most 8 LETTERS. A row is one number, five bits for each LETTER
   * (1 to 26; 0 behind the end), the first one highest: so rows stand in order as numbers do.
   */
  private static final class Rows {
    static final int BITS = 5;
    static final long ALL_BITS = (1L << (BITS * MOST_ROW_LETTERS)) - 1;
    static final long EMPTY_ROW = 0;

    private final long[] row = new long[MOST_ROWS];
    private int size;

    static int lettersOf(long row) {
      return row == EMPTY_ROW ? 0 : MOST_ROW_LETTERS - Long.numberOfTrailingZeros(row) / BITS;
    }

    static int letterOf(long row, int k) {
      return (int) ((row >>> (BITS * (MOST_ROW_LETTERS - 1 - k))) & 31) - 1;
    }

    static long rowOf(int letter) {
      return (long) (letter + 1) << (BITS * (MOST_ROW_LETTERS - 1));
    }

    static long lastTwoOf(long row) {
      int letters = lettersOf(row);
      return letters <= 2 ? row : (row << (BITS * (letters - 2))) & ALL_BITS;
    }

    int size() {
      return size;
    }

    long rowAt(int i) {
      return i >= 0 && i < size ? row[i] : EMPTY_ROW;
    }

    void clear() {
      size = 0;
    }

    void setEmptyRow() {
      size = 1;
      row[0] = EMPTY_ROW;
    }

    void take(Rows other) {
      size = other.size;
      System.arraycopy(other.row, 0, row, 0, size);
    }

    /** Adds a row, if it isn't there; false if there were too many then. */
    boolean add(long added) {
      for (int i = 0; i < size; i++) {
        if (row[i] == added) {
          return true;
        }
      }
      if (size >= MOST_ROWS) {
        return false;
      }
      row[size] = added;
      size++;
      return true;
    }

    boolean addAll(Rows other) {
      for (int i = 0; i < other.size; i++) {
        if (!add(other.row[i])) {
          return false;
        }
      }
      return true;
    }

    /** Becomes each row of one set (or its last two LETTERS) with each of another behind it. */
    boolean join(Rows ahead, Rows behind, boolean lastTwo) {
      size = 0;
      for (int i = 0; i < ahead.size; i++) {
        long front = lastTwo ? lastTwoOf(ahead.row[i]) : ahead.row[i];
        int letters = lettersOf(front);
        for (int k = 0; k < behind.size; k++) {
          long rear = behind.row[k];
          if (letters + lettersOf(rear) > MOST_ROW_LETTERS
              || !add(front | (rear >>> (BITS * letters)))) {
            return false;
          }
        }
      }
      return true;
    }

    long[] inOrder() {
      long[] ordered = new long[size];
      for (int i = 0; i < size; i++) {
        int at = i;
        while (at > 0 && ordered[at - 1] > row[i]) {
          ordered[at] = ordered[at - 1];
          at--;
        }
        ordered[at] = row[i];
      }
      return ordered;
    }
  }

  /** A set of CHOICES, none of which has all TRIPLES of another one. */
  private static final class Need {
    private final int room;
    /** MOST_TRIPLES places for each CHOICE; its TRIPLES stand there, the least first. */
    private final int[] triples;
    private final int[] sizes;
    private int size;

    Need(int room) {
      this.room = Math.max(1, room);
      this.triples = new int[this.room * MOST_TRIPLES];
      this.sizes = new int[this.room];
    }

    /** Whether each of the TRIPLES in one stretch stands in another one; both are in order. */
    static boolean isWithin(int[] inner, int from, int to,
        int[] outer, int outerFrom, int outerTo) {
      int at = outerFrom;
      for (int i = from; i < to; i++) {
        while (at < outerTo && outer[at] < inner[i]) {
          at++;
        }
        if (at >= outerTo || outer[at] != inner[i]) {
          return false;
        }
      }
      return true;
    }

    static int[] unlikeOf(int[] all) {
      int[] unlike = new int[all.length];
      int many = 0;
      for (int i = 0; i < all.length; i++) {
        many = insert(unlike, many, all[i]);
      }
      return Arrays.copyOf(unlike, many);
    }

    /** Puts a TRIPLE in its place in a row, if it isn't there and there is room: how many. */
    static int insert(int[] into, int many, int triple) {
      int at = many;
      while (at > 0 && into[at - 1] > triple) {
        at--;
      }
      if (many >= into.length || (at > 0 && into[at - 1] == triple)) {
        return many;
      }
      System.arraycopy(into, at, into, at + 1, many - at);
      into[at] = triple;
      return many + 1;
    }

    void setEmptyChoice() {
      size = 1;
      sizes[0] = 0;
    }

    private boolean isEmptyChoice() {
      return size == 1 && sizes[0] == 0;
    }

    void take(Need other) {
      size = Math.min(other.size, room);
      for (int i = 0; i < size; i++) {
        sizes[i] = other.sizes[i];
        System.arraycopy(other.triples, i * MOST_TRIPLES, triples, i * MOST_TRIPLES, sizes[i]);
      }
    }

    /** Adds a CHOICE, unless it has all of one that is there; those that have all of it go. */
    private void add(int[] choice, int from, int to) {
      int kept = 0;
      for (int i = 0; i < size; i++) {
        int start = i * MOST_TRIPLES;
        if (isWithin(triples, start, start + sizes[i], choice, from, to)) {
          return;
        }
        if (!isWithin(choice, from, to, triples, start, start + sizes[i])) {
          System.arraycopy(triples, start, triples, kept * MOST_TRIPLES, sizes[i]);
          sizes[kept] = sizes[i];
          kept++;
        }
      }
      size = kept;
      if (size < room && to - from <= MOST_TRIPLES) {
        System.arraycopy(choice, from, triples, size * MOST_TRIPLES, to - from);
        sizes[size] = to - from;
        size++;
      }
    }

    /** OF ROWS: a CHOICE for each row. */
    void setOfRows(Rows rows, int[] choice) {
      size = 0;
      for (int i = 0; i < rows.size(); i++) {
        long row = rows.rowAt(i);
        int many = 0;
        for (int k = 0; k + 2 < Rows.lettersOf(row); k++) {
          int pair = Rows.letterOf(row, k) * ALPHABET + Rows.letterOf(row, k + 1);
          many = insert(choice, many, pair * ALPHABET + Rows.letterOf(row, k + 2));
        }
        add(choice, 0, many);
      }
    }

    /** BOTH: stays as it is if there would be too many CHOICES. */
    void needBoth(Need other, Need wide, int[] choice) {
      if (other.isEmptyChoice()) {
        return;
      }
      wide.size = 0;
      for (int i = 0; i < size; i++) {
        for (int k = 0; k < other.size; k++) {
          int many = Math.min(sizes[i], choice.length);
          System.arraycopy(triples, i * MOST_TRIPLES, choice, 0, many);
          for (int t = 0; t < other.sizes[k]; t++) {
            many = insert(choice, many, other.triples[k * MOST_TRIPLES + t]);
          }
          wide.add(choice, 0, many);
        }
      }
      if (wide.size <= MOST_CHOICES) {
        take(wide);
      }
    }

    /** EITHER: one empty CHOICE if there would be too many. */
    void needEither(Need other, Need wide) {
      wide.take(this);
      for (int k = 0; k < other.size; k++) {
        int start = k * MOST_TRIPLES;
        wide.add(other.triples, start, start + other.sizes[k]);
      }
      if (wide.size <= MOST_CHOICES) {
        take(wide);
      } else {
        setEmptyChoice();
      }
    }

    /** The CHOICES by their first difference, that which ends first ahead. */
    int[] order() {
      int[] order = new int[size];
      for (int i = 0; i < size; i++) {
        int at = i;
        while (at > 0 && standsAhead(i, order[at - 1])) {
          order[at] = order[at - 1];
          at--;
        }
        order[at] = i;
      }
      return order;
    }

    private boolean standsAhead(int one, int other) {
      int common = Math.min(sizes[one], sizes[other]);
      for (int i = 0; i < common; i++) {
        int difference = triples[one * MOST_TRIPLES + i] - triples[other * MOST_TRIPLES + i];
        if (difference != 0) {
          return difference < 0;
        }
      }
      return sizes[one] < sizes[other];
    }

    int[] startsBy(int[] order) {
      int[] starts = new int[order.length + 1];
      for (int i = 0; i < order.length; i++) {
        starts[i + 1] = starts[i] + sizes[order[i]];
      }
      return starts;
    }

    int[] triplesBy(int[] order, int[] starts) {
      int[] all = new int[starts[order.length]];
      for (int i = 0; i < order.length; i++) {
        System.arraycopy(triples, order[i] * MOST_TRIPLES, all, starts[i], sizes[order[i]]);
      }
      return all;
    }
  }

  /** What is known of a part of a PATTERN while it is gone through; used again and again. */
  private static final class Part {
    /** EXACT, if it has it; of a BRANCH the rows R, EXACT or not. */
    final Rows rows = new Rows();
    final Need need = new Need(MOST_CHOICES);
    boolean hasExact;
    boolean canBeEmpty;
    int fewest;
    int depth;
    int first;
    int last;

    /** As a BRANCH is ahead of its first ITEM. */
    void beginBranch() {
      rows.setEmptyRow();
      need.setEmptyChoice();
      hasExact = true;
      canBeEmpty = true;
      fewest = 0;
      depth = 0;
      first = 0;
      last = 0;
    }

    void setSpot(int spot, int letters) {
      need.setEmptyChoice();
      rows.clear();
      hasExact = Integer.bitCount(letters) <= MOST_ROWS;
      for (int letter = 0; letter < ALPHABET && hasExact; letter++) {
        if (((letters >>> letter) & 1) != 0) {
          rows.add(Rows.rowOf(letter));
        }
      }
      canBeEmpty = false;
      fewest = 1;
      depth = 1;
      first = 1 << spot;
      last = first;
    }

    void take(Part other) {
      rows.take(other.rows);
      need.take(other.need);
      hasExact = other.hasExact;
      canBeEmpty = other.canBeEmpty;
      fewest = other.fewest;
      depth = other.depth;
      first = other.first;
      last = other.last;
    }

    /** One BRANCH more, but for the NEED. */
    void addBranch(Part branch) {
      hasExact = hasExact && branch.hasExact && rows.addAll(branch.rows);
      canBeEmpty |= branch.canBeEmpty;
      fewest = Math.min(fewest, branch.fewest);
      depth = Math.max(depth, branch.depth);
      first |= branch.first;
      last |= branch.last;
    }

    /** A SIGN behind an ATOM, but for what can follow what. */
    void addSign(int sign) {
      depth++;
      if (sign != '?') {
        hasExact = false;
      }
      if (sign != '+') {
        hasExact = hasExact && rows.add(Rows.EMPTY_ROW);
        need.setEmptyChoice();
        canBeEmpty = true;
        fewest = 0;
      }
    }
  }

  /**
   * Makes a PATTERN of bytes in which the reader found no FAULT. It goes along them once; what
   * stands open, a PATTERN and its latest BRANCH for each ( and for the whole, waits in rows.
   */
  private static final class Compiler {
    private final Part[] wholes = new Part[MOST_NESTED + 1];
    private final Part[] branches = new Part[MOST_NESTED + 1];
    private final boolean[] begun = new boolean[MOST_NESTED + 1];
    private final Part spot = new Part();
    private final Rows joined = new Rows();
    private final Need ofRows = new Need(MOST_ROWS);
    private final Need wide = new Need(MOST_CHOICES * MOST_CHOICES);
    private final int[] choice = new int[MOST_TRIPLES];
    private final int[] follow = new int[MOST_SPOTS];
    private final int[] takers = new int[ALPHABET];
    private int spots;

    Compiler() {
      for (int i = 0; i < wholes.length; i++) {
        wholes[i] = new Part();
        branches[i] = new Part();
      }
    }

    Pattern compile(int[] bytes, int from, int to) {
      spots = 0;
      Arrays.fill(follow, 0);
      Arrays.fill(takers, 0);
      int begin = Math.max(from, 0);
      int end = Math.max(begin, Math.min(to, bytes.length));
      int open = 0;
      openWhole(open);
      for (int at = begin; at < end; at++) {
        int sign = bytes[at];
        if (sign == '(') {
          open = Math.min(open + 1, MOST_NESTED);
          openWhole(open);
        } else if (sign == '|') {
          closeBranch(open);
        } else {
          Part item = spot;
          if (sign == ')') {
            closeBranch(open);
            item = closedWhole(open);
            open = Math.max(open - 1, 0);
          } else {
            at = Math.max(at, readSpot(bytes, at, end));
          }
          at = Math.max(at, readSign(item, bytes, at, end));
          addRows(partAt(branches, open), item);
          addSpots(partAt(branches, open), item);
        }
      }
      closeBranch(0);
      int[] text = Arrays.copyOfRange(bytes, begin, end);
      return new Pattern(closedWhole(0), text, Arrays.copyOf(follow, spots), takers.clone());
    }

    private Part partAt(Part[] parts, int i) {
      Part part = i >= 0 && i < parts.length ? parts[i] : null;
      return part == null ? spot : part;
    }

    private void openWhole(int open) {
      if (open >= 0 && open < begun.length) {
        begun[open] = false;
      }
      partAt(branches, open).beginBranch();
    }

    private void closeBranch(int open) {
      Part branch = partAt(branches, open);
      Part whole = partAt(wholes, open);
      ofRows.setOfRows(branch.rows, choice);
      branch.need.needBoth(ofRows, wide, choice);
      branch.depth++;
      if (open >= 0 && open < begun.length && !begun[open]) {
        begun[open] = true;
        whole.take(branch);
      } else {
        whole.need.needEither(branch.need, wide);
        whole.addBranch(branch);
      }
      branch.beginBranch();
    }

    /** The PATTERN whose last BRANCH was closed, as an ATOM. */
    private Part closedWhole(int open) {
      Part whole = partAt(wholes, open);
      whole.depth++;
      if (whole.hasExact) {
        whole.need.setOfRows(whole.rows, choice);
      }
      return whole;
    }

    /** Reads a letter, . or [ ] into spot: where its last byte stands. */
    private int readSpot(int[] bytes, int at, int to) {
      int end = at;
      int letters = 0;
      if (bytes[at] == '.') {
        letters = (1 << ALPHABET) - 1;
      } else if (bytes[at] == '[') {
        end++;
        while (end < to && isSmall(bytes[end])) {
          letters |= 1 << (bytes[end] - 'a');
          end++;
        }
      } else if (isSmall(bytes[at])) {
        letters = 1 << (bytes[at] - 'a');
      }
      if (spots < MOST_SPOTS) {
        spot.setSpot(spots, letters);
        for (int letter = 0; letter < ALPHABET; letter++) {
          takers[letter] |= ((letters >>> letter) & 1) << spots;
        }
        spots++;
      }
      return end;
    }

    /** Gives the ITEM the SIGN behind its ATOM, if there is one: where its last byte stands. */
    private int readSign(Part item, int[] bytes, int at, int to) {
      int next = at + 1;
      if (next >= to || !Reader.isSign(bytes[next])) {
        return at;
      }
      item.addSign(bytes[next]);
      if (bytes[next] != '?') {
        addFollow(item.last, item.first);
      }
      return next;
    }

    /** What an ITEM does to the rows R and the NEED of its BRANCH. */
    private void addRows(Part branch, Part item) {
      boolean whole = item.hasExact && joined.join(branch.rows, item.rows, false);
      if (!whole) {
        ofRows.setOfRows(branch.rows, choice);
        branch.need.needBoth(ofRows, wide, choice);
        branch.hasExact = false;
      }
      if (!item.hasExact) {
        branch.need.needBoth(item.need, wide, choice);
        branch.rows.setEmptyRow();
      } else if (whole || joined.join(branch.rows, item.rows, true)) {
        branch.rows.take(joined);
      } else {
        branch.rows.take(item.rows);
      }
    }

    /** What an ITEM does to the SPOTS, the LETTERS and the DEPTH of its BRANCH. */
    private void addSpots(Part branch, Part item) {
      addFollow(branch.last, item.first);
      if (branch.canBeEmpty) {
        branch.first |= item.first;
      }
      branch.last = item.canBeEmpty ? branch.last | item.last : item.last;
      branch.canBeEmpty &= item.canBeEmpty;
      branch.fewest += item.fewest;
      branch.depth = Math.max(branch.depth, item.depth);
    }

    private void addFollow(int ahead, int behind) {
      for (int i = 0; i < spots; i++) {
        if (((ahead >>> i) & 1) != 0) {
          follow[i] |= behind;
        }
      }
    }
  }

  /** Goes along the bytes of a BOOK to its first FAULT, and keeps where each QUOTE stands. */
  private static final class Reader {
    private static final int MOST_LINES = MOST_DOCUMENTS + MOST_PATTERNS;
    /** What has to come next. */
    private static final int A_LINE = 0;
    private static final int DOC_QUOTE = 1;
    private static final int PATTERN_QUOTE = 2;
    private static final int SEMICOLON = 3;
    /** Where a byte of a PATTERN stands: an ATOM must come; behind an ATOM; behind its SIGN. */
    private static final int AHEAD_OF_ATOM = 0;
    private static final int BEHIND_ATOM = 1;
    private static final int BEHIND_SIGN = 2;

    int faultKind;
    int faultPlace;
    int lines;
    int newDocs;
    int newPatterns;
    final int[] begins = new int[MOST_LINES];
    final int[] ends = new int[MOST_LINES];
    final boolean[] isPattern = new boolean[MOST_LINES];
    private int docsAhead;
    private int patternsAhead;
    private int wanted;

    static boolean isSign(int sign) {
      return sign == '*' || sign == '+' || sign == '?';
    }

    boolean read(int[] bytes, int count, int docs, int patterns) {
      faultKind = 0;
      faultPlace = NONE;
      lines = 0;
      newDocs = 0;
      newPatterns = 0;
      docsAhead = docs;
      patternsAhead = patterns;
      wanted = A_LINE;
      int to = Math.min(count, bytes.length);
      for (int at = 0; at < to && faultKind == 0; at++) {
        int sign = bytes[at];
        if (isSmall(sign)) {
          at = Math.max(at, readWord(bytes, at, to));
        } else if (sign == '"') {
          at = Math.max(at, readQuote(bytes, at, to));
        } else if (sign == ';') {
          readSemicolon(at);
        } else if (sign != ' ' && sign != '\n') {
          fail(1, at);
        }
      }
      if (faultKind == 0 && wanted != A_LINE) {
        fail(2, to);
      }
      return faultKind == 0;
    }

    private void fail(int kind, int place) {
      faultKind = kind;
      faultPlace = place;
    }

    /** Reads a WORD: where its last byte stands. */
    private int readWord(int[] bytes, int at, int to) {
      int end = at + 1;
      while (end < to && isSmall(bytes[end])) {
        end++;
      }
      boolean doc = isWord(bytes, at, end, "doc");
      if (wanted != A_LINE || (!doc && !isWord(bytes, at, end, "pattern"))) {
        fail(2, at);
      } else if (doc ? docsAhead + newDocs >= MOST_DOCUMENTS
          : patternsAhead + newPatterns >= MOST_PATTERNS) {
        fail(3, at);
      } else {
        wanted = doc ? DOC_QUOTE : PATTERN_QUOTE;
      }
      return end - 1;
    }

    private static boolean isWord(int[] bytes, int from, int to, String word) {
      if (to - from != word.length()) {
        return false;
      }
      for (int i = 0; i < word.length(); i++) {
        if (bytes[from + i] != word.charAt(i)) {
          return false;
        }
      }
      return true;
    }

    /** Reads a QUOTE and keeps where it stands: where its last byte is. */
    private int readQuote(int[] bytes, int at, int to) {
      if (wanted != DOC_QUOTE && wanted != PATTERN_QUOTE) {
        fail(2, at);
        return at;
      }
      boolean doc = wanted == DOC_QUOTE;
      int end = doc ? endOfDoc(bytes, at + 1, to) : endOfPattern(bytes, at + 1, to);
      if (faultKind == 0 && lines < MOST_LINES) {
        begins[lines] = at + 1;
        ends[lines] = end;
        isPattern[lines] = !doc;
        lines++;
        newDocs += doc ? 1 : 0;
        newPatterns += doc ? 0 : 1;
        wanted = SEMICOLON;
      }
      return end;
    }

    private void readSemicolon(int at) {
      if (wanted != SEMICOLON) {
        fail(2, at);
      }
      wanted = A_LINE;
    }

    private int endOfDoc(int[] bytes, int from, int to) {
      for (int at = from; at < to; at++) {
        if (bytes[at] == '"' && at > from) {
          return at;
        }
        if (!isSmall(bytes[at])) {
          fail(1, at);
          return at;
        }
        if (at - from >= MOST_LETTERS) {
          fail(4, at);
          return at;
        }
      }
      fail(1, to);
      return to;
    }

    private int endOfPattern(int[] bytes, int from, int to) {
      int spots = 0;
      int open = 0;
      int stand = AHEAD_OF_ATOM;
      for (int at = from; at < to; at++) {
        int sign = bytes[at];
        if (isSmall(sign) || sign == '.' || sign == '[') {
          if (spots >= MOST_SPOTS) {
            fail(4, at);
          }
          spots++;
          stand = BEHIND_ATOM;
          if (sign == '[' && faultKind == 0) {
            at = Math.max(at, endOfSet(bytes, at + 1, to));
          }
        } else if (sign == '(') {
          if (open >= MOST_NESTED) {
            fail(4, at);
          }
          open++;
          stand = AHEAD_OF_ATOM;
        } else if (sign == '"' && open == 0 && stand != AHEAD_OF_ATOM) {
          return at;
        } else if (sign == '|' && stand != AHEAD_OF_ATOM) {
          stand = AHEAD_OF_ATOM;
        } else if (sign == ')' && open > 0 && stand != AHEAD_OF_ATOM) {
          open--;
          stand = BEHIND_ATOM;
        } else if (isSign(sign) && stand == BEHIND_ATOM) {
          stand = BEHIND_SIGN;
        } else {
          fail(1, at);
        }
        if (faultKind != 0) {
          return at;
        }
      }
      fail(1, to);
      return to;
    }

    private int endOfSet(int[] bytes, int from, int to) {
      int letters = 0;
      for (int at = from; at < to; at++) {
        if (bytes[at] == ']' && letters != 0) {
          return at;
        }
        if (!isSmall(bytes[at])) {
          fail(1, at);
          return at;
        }
        int letter = 1 << (bytes[at] - 'a');
        if ((letters & letter) != 0) {
          fail(4, at);
          return at;
        }
        letters |= letter;
      }
      fail(1, to);
      return to;
    }
  }
}
