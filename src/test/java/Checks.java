import java.io.IOException;
import java.nio.charset.StandardCharsets;
import java.nio.file.Files;
import java.nio.file.Path;

/**
 * What the tests by hand have in common: telling a BOOK, spelling out what a gate holds, and
 * counting what is wrong. A test of one sentence says it in the document's own words, which are
 * looked for in the document, so that no test stands for words that aren't there.
 */
class Checks {
  static final String SMALL = "abcdefghijklmnopqrstuvwxyz";
  private static final Path DOCUMENT = Path.of("../shared/DOC.md");
  private static int wrong = 0;
  private static int checked = 0;
  private static String document = null;

  PatternGate x = new PatternGate();
  private String about;

  Checks(String about) {
    this.about = about;
  }

  /** A new object, for a test of these words of the document. */
  final void sentence(String words) {
    about = words;
    x = new PatternGate();
    checked++;
    if (!document().contains(plain(words))) complain("the document does not say so");
  }

  private static String document() {
    if (document == null) {
      try {
        document = plain(Files.readString(DOCUMENT, StandardCharsets.UTF_8));
      } catch (IOException e) {
        document = "";
      }
    }
    return document;
  }

  private static String plain(String words) {
    return words.replace("`", "").replaceAll("\\s+", " ");
  }

  private void complain(String what) {
    wrong++;
    System.out.println(about + ": " + what);
  }

  static void end(String name) {
    System.out.println(name + ": " + checked + " checks, " + wrong + " wrong");
    if (wrong != 0) System.exit(1);
  }

  // ---- what is due

  final void due(String call, int got, int want) {
    checked++;
    if (got != want) complain(call + " answered " + got + ", due is " + want);
  }

  final void same(String call, String got, String want) {
    checked++;
    if (!got.equals(want)) complain(call + " gave " + got + ", due is " + want);
  }

  /** A call that is refused: NONE, with its STATUS. */
  final void refused(String call, int got, int status) {
    due(call, got, -1);
    due("status() behind " + call, x.status(), status);
  }

  /** A call that is answered, with STATUS 0. */
  final void fine(String call, int got, int want) {
    due(call, got, want);
    due("status() behind " + call, x.status(), 0);
  }

  // ---- telling

  /** Puts a text on the tape, filled up with signs that no BOOK has: how long the text is. */
  final int tell(String text) {
    StringBuilder padded = new StringBuilder(text);
    while (padded.length() % 20 != 0) padded.append('#');
    for (int i = 0; i < padded.length(); i += 20) {
      int[] five = new int[5];
      for (int k = 0; k < 20; k++) five[k / 4] = five[k / 4] << 8 | padded.charAt(i + k);
      x.feed(five[0], five[1], five[2], five[3], five[4]);
    }
    return text.length();
  }

  final int loaded(String text) {
    return x.load(tell(text));
  }

  /** A load() with this FAULT. */
  final void faulty(String text, int kind, int place) {
    String shown = text.length() > 50 ? text.substring(0, 50) + ".." : text;
    refused("load of " + shown, loaded(text), 9);
    due("fault(0) of " + shown, x.fault(0), kind);
    due("fault(1) of " + shown, x.fault(1), place);
  }

  /** A load() of a PATTERN with this FAULT, its place counted from the first byte of the QUOTE on. */
  final void faultyPattern(String text, int kind, int place) {
    faulty("pattern \"" + text, kind, place + 9);
  }

  static String docs(String... texts) {
    StringBuilder all = new StringBuilder();
    for (String text : texts) all.append("doc \"").append(text).append("\";");
    return all.toString();
  }

  static String patterns(String... texts) {
    StringBuilder all = new StringBuilder();
    for (String text : texts) all.append("pattern \"").append(text).append("\";");
    return all.toString();
  }

  /** So many DOCUMENTS of one LETTER each: a, b, c and so on. */
  static String docsOf(int many) {
    return docs(SMALL.substring(0, many).split(""));
  }

  static String patternsOf(int many) {
    return patterns(SMALL.substring(0, many).split(""));
  }

  static String repeat(String text, int times) {
    return text.repeat(times);
  }

  // ---- spelling out

  static int triple(String t) {
    return (t.charAt(0) - 'a') * 676 + (t.charAt(1) - 'a') * 26 + t.charAt(2) - 'a';
  }

  static String spelled(int t) {
    return "" + (char) ('a' + t / 676) + (char) ('a' + t / 26 % 26) + (char) ('a' + t % 26);
  }

  final String text(int document) {
    StringBuilder all = new StringBuilder();
    int letters = x.document(document, 0);
    for (int i = 0; i < letters; i++) all.append((char) ('a' + x.letter(document, i)));
    return all.toString();
  }

  final String allTexts() {
    StringBuilder all = new StringBuilder();
    int docs = x.many(0);
    for (int i = 0; i < docs; i++) all.append(i == 0 ? "" : ",").append(text(i));
    return all.toString();
  }

  final String signs(int pattern) {
    StringBuilder all = new StringBuilder();
    int bytes = x.pattern(pattern, 0);
    for (int i = 0; i < bytes; i++) all.append((char) x.sign(pattern, i));
    return all.toString();
  }

  final String allSigns() {
    StringBuilder all = new StringBuilder();
    int pats = x.many(1);
    for (int i = 0; i < pats; i++) all.append(i == 0 ? "" : ",").append(signs(i));
    return all.toString();
  }

  /** EXACT as rows with commas between them, or none. */
  final String exactOf(int pattern) {
    int rows = x.pattern(pattern, 3);
    if (rows < 0) return "none";
    StringBuilder all = new StringBuilder();
    for (int i = 0; i < rows; i++) {
      if (i > 0) all.append(',');
      for (int k = 0; x.exact(pattern, i, k) >= 0; k++) all.append((char) ('a' + x.exact(pattern, i, k)));
    }
    return all.toString();
  }

  /** NEED as CHOICES with | between them, TRIPLES with blanks. */
  final String needOf(int pattern) {
    StringBuilder all = new StringBuilder();
    for (int i = 0; i < x.pattern(pattern, 2); i++) {
      if (i > 0) all.append('|');
      for (int k = 0; x.need(pattern, i, k) >= 0; k++) {
        all.append(k == 0 ? "" : " ").append(spelled(x.need(pattern, i, k)));
      }
    }
    return all.toString();
  }

  // ---- one BOOK on a new object

  final void becomes(String text, String exact, String need) {
    x = new PatternGate();
    loaded(patterns(text));
    same("EXACT of " + text, exactOf(0), exact);
    same("NEED of " + text, needOf(0), need);
  }

  final void patternIs(String text, int spots, int empty, int fewest, int depth) {
    x = new PatternGate();
    loaded(patterns(text));
    fine(text + ", bytes", x.pattern(0, 0), text.length());
    fine(text + ", spots", x.pattern(0, 1), spots);
    fine(text + ", empty", x.pattern(0, 4), empty);
    fine(text + ", fewest", x.pattern(0, 5), fewest);
    fine(text + ", depth", x.pattern(0, 7), depth);
  }

  /** Of PATTERN 0 of a BOOK: its CANDIDATES, LEAPS, DOCUMENTS that FIT, CANDIDATES that don't. */
  final void gateIs(String book, int candidates, int leaps, int fit, int wrongly) {
    x = new PatternGate();
    loaded(book);
    fine(book + ", candidates", x.gate(0, 0), candidates);
    fine(book + ", leaps", x.gate(0, 1), leaps);
    fine(book + ", fit", x.gate(0, 2), fit);
    fine(book + ", candidates that don't", x.gate(0, 3), wrongly);
  }

  /** The FIRST MATCH and how many MATCHES; a place below 0 if there is none. */
  final void matchIs(String pattern, String doc, int place, int letters, int matches) {
    x = new PatternGate();
    loaded(docs(doc) + patterns(pattern));
    String both = pattern + " in " + doc;
    if (place < 0) {
      refused(both + ", place", x.match(0, 0, 0), 5);
      refused(both + ", letters", x.match(0, 0, 1), 5);
    } else {
      fine(both + ", place", x.match(0, 0, 0), place);
      fine(both + ", letters", x.match(0, 0, 1), letters);
    }
    fine(both + ", matches", x.match(0, 0, 2), matches);
  }
}
