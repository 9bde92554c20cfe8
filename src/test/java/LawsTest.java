import java.util.ArrayList;
import java.util.List;
import java.util.Random;
import java.util.Set;
import java.util.TreeSet;
import java.util.regex.Matcher;
import java.util.regex.Pattern;

/**
 * Laws that hold whatever the way to an answer is: matches as Java's own patterns find them, calls
 * that must agree with one another, and nothing that fits kept out by the gate. Model reads the
 * document as PatternGate does, so a misreading in both would show here alone.
 */
public final class LawsTest extends Checks {
  private static final int LONGEST = 11;

  private final Random chance;
  private final List<String> docs = new ArrayList<>();
  private final List<String> patterns = new ArrayList<>();
  private final List<Pattern> javas = new ArrayList<>();
  /** The CHOICES of each PATTERN, asked once: an object is used for 512 calls alone. */
  private final List<List<List<Integer>>> needs = new ArrayList<>();

  private LawsTest(long seed) {
    super("book " + seed);
    chance = new Random(seed);
    ChanceTexts texts = new ChanceTexts(chance, 2 + chance.nextInt(3));
    for (int i = 0; i < 5; i++) docs.add(texts.doc(1 + chance.nextInt(LONGEST)));
    for (int i = 0; i < 4; i++) patterns.add(texts.pattern(2 + chance.nextInt(12)));
    for (String pattern : patterns) javas.add(Pattern.compile(pattern));
  }

  public static void main(String[] args) {
    int books = args.length > 0 ? Integer.parseInt(args[0]) : 1500;
    int told = 0;
    for (int seed = 1; seed <= books; seed++) {
      LawsTest test = new LawsTest(seed);
      if (!test.begin()) continue;
      told++;
      test.laws();
    }
    if (told < books * 9 / 10) throw new IllegalStateException("too few books could be told: " + told);
    end("LawsTest");
  }

  /** A new object with the BOOK; false if chance made a PATTERN that can't be told. */
  private boolean begin() {
    x = new PatternGate();
    return loaded(docs(docs.toArray(new String[0])) + patterns(patterns.toArray(new String[0]))) == docs.size();
  }

  private void laws() {
    for (int p = 0; p < patterns.size(); p++) {
      for (int d = 0; d < docs.size(); d++) matchesAsJavaDoes(p, d);
      begin();
      needs.add(needsOf(p));
      begin();
      fitsAsJavaDoes(p);
      canBeAsJavaSays(p);
      gateKeepsNoneOut(p);
      rarestIsShortest(p);
    }
    begin();
    withinIsAnOrder();
    begin();
    listsHoldAllTriples();
    int d = chance.nextInt(docs.size());
    int place = chance.nextInt(docs.get(d).length());
    begin();
    wouldIsSo(d, place);
    begin();
    bestIsSo(d, place);
    begin();
    aliveKnowsNothingBehind(d, place);
  }

  // ---- Java's own patterns

  private boolean canBe(int p, String row) {
    return javas.get(p).matcher(row).matches();
  }

  /** PLACE and LETTERS of the first and longest match from a place on, or null. */
  private int[] firstFrom(int p, String doc, int from) {
    for (int place = from; place <= doc.length(); place++) {
      for (int end = doc.length(); end >= place; end--) {
        if (canBe(p, doc.substring(place, end))) return new int[] {place, end - place};
      }
    }
    return null;
  }

  private void matchesAsJavaDoes(int p, int d) {
    String both = patterns.get(p) + " in " + docs.get(d);
    int[] first = firstFrom(p, docs.get(d), 0);
    if (first == null) {
      refused(both + ", place", x.match(p, d, 0), 5);
      refused(both + ", letters", x.match(p, d, 1), 5);
    } else {
      fine(both + ", place", x.match(p, d, 0), first[0]);
      fine(both + ", letters", x.match(p, d, 1), first[1]);
    }
    int matches = 0;
    while (first != null) {
      matches++;
      first = firstFrom(p, docs.get(d), first[0] + Math.max(1, first[1]));
    }
    fine(both + ", matches", x.match(p, d, 2), matches);
  }

  private void fitsAsJavaDoes(int p) {
    int bits = 0;
    for (int d = 0; d < docs.size(); d++) {
      Matcher matcher = javas.get(p).matcher(docs.get(d));
      if (matcher.find()) bits |= 1 << d;
      due(patterns.get(p) + " fits " + docs.get(d), x.document(d, 2) >> p & 1, bits >> d & 1);
    }
    fine("what fits " + patterns.get(p), x.gate(p, 2), bits);
  }

  /** All rows within the DOCUMENTS that a PATTERN can be. */
  private Set<String> rowsOf(int p) {
    Set<String> rows = new TreeSet<>();
    for (String doc : docs) {
      for (int from = 0; from <= doc.length(); from++) {
        for (int to = from; to <= doc.length(); to++) {
          if (canBe(p, doc.substring(from, to))) rows.add(doc.substring(from, to));
        }
      }
    }
    return rows;
  }

  private void canBeAsJavaSays(int p) {
    String pattern = patterns.get(p);
    fine(pattern + " can be empty", x.pattern(p, 4), canBe(p, "") ? 1 : 0);
    int fewest = x.pattern(p, 5);
    due(pattern + " has fewest", fewest == 0 ? 1 : 0, canBe(p, "") ? 1 : 0);
    Set<String> found = rowsOf(p);
    for (String row : found) due(row + " has the fewest of " + pattern, row.length() >= fewest ? 1 : 0, 1);
    for (String row : found) due(row + " has the need of " + pattern, hasNeed(p, row) ? 1 : 0, 1);
    if (x.pattern(p, 3) < 0) return;
    Set<String> exact = new TreeSet<>(List.of(exactOf(p).split(",", -1)));
    due("rows of " + pattern, exact.size(), x.pattern(p, 3));
    int least = Integer.MAX_VALUE;
    for (String row : exact) {
      due(pattern + " can be " + row, canBe(p, row) ? 1 : 0, 1);
      least = Math.min(least, row.length());
    }
    due("the fewest of " + pattern, fewest, least);
    for (String row : found) due(row + " is exact of " + pattern, exact.contains(row) ? 1 : 0, 1);
  }

  // ---- the gate

  private List<List<Integer>> needsOf(int p) {
    List<List<Integer>> needs = new ArrayList<>();
    int choices = x.pattern(p, 2);
    for (int i = 0; i < choices; i++) {
      List<Integer> choice = new ArrayList<>();
      for (int t = x.need(p, i, 0); t >= 0; t = x.need(p, i, choice.size())) choice.add(t);
      needs.add(choice);
    }
    return needs;
  }

  private boolean hasNeed(int p, String row) {
    Set<Integer> triples = new TreeSet<>();
    for (int i = 0; i + 3 <= row.length(); i++) triples.add(triple(row.substring(i, i + 3)));
    for (List<Integer> choice : needs.get(p)) if (triples.containsAll(choice)) return true;
    return false;
  }

  private void gateKeepsNoneOut(int p) {
    String pattern = patterns.get(p);
    int candidates = x.gate(p, 0);
    int fit = x.gate(p, 2);
    due("kept out by " + pattern, fit & ~candidates, 0);
    due("let in by " + pattern, x.gate(p, 3), Integer.bitCount(candidates & ~fit));
    int due = 0;
    int triples = 0;
    for (List<Integer> choice : needs.get(p)) triples += choice.size();
    for (int d = 0; d < docs.size(); d++) {
      if (hasNeed(p, docs.get(d))) due |= 1 << d;
      due("a candidate of " + pattern, x.document(d, 3) >> p & 1, due >> d & 1);
    }
    due("candidates of " + pattern, candidates, due);
    int leaps = x.gate(p, 1);
    due("leaps of " + pattern, leaps <= triples * (docs.size() + 1) && leaps > 0 == triples > 0 ? 1 : 0, 1);
  }

  private int lengthOfList(int triple) {
    int length = 0;
    while (x.list(triple, length) >= 0) length++;
    return length;
  }

  private void rarestIsShortest(int p) {
    Set<Integer> all = new TreeSet<>();
    for (List<Integer> choice : needs.get(p)) all.addAll(choice);
    int rarest = -1;
    for (int t : all) if (rarest < 0 || lengthOfList(t) < lengthOfList(rarest)) rarest = t;
    due("rarest of " + patterns.get(p), x.rarest(p), rarest);
    fine("triples of " + patterns.get(p), x.pattern(p, 6), all.size());
  }

  private void withinIsAnOrder() {
    int many = patterns.size();
    boolean[][] within = new boolean[many][many];
    for (int p = 0; p < many; p++) {
      for (int q = 0; q < many; q++) {
        within[p][q] = x.within(p, q) == 1;
        String both = patterns.get(p) + " within " + patterns.get(q);
        if (within[p][q]) due(both + ": candidates", x.gate(p, 0) & ~x.gate(q, 0), 0);
        if (p == q) due(both, within[p][q] ? 1 : 0, 1);
      }
    }
    for (int i = 0; i < many * many * many; i++) {
      int p = i % many;
      int q = i / many % many;
      int r = i / many / many;
      if (within[p][q] && within[q][r]) due("within within", within[p][r] ? 1 : 0, 1);
    }
  }

  // ---- LISTS and edits

  private void listsHoldAllTriples() {
    Set<Integer> all = new TreeSet<>();
    int unlike = 0;
    int letters = 0;
    for (int d = 0; d < docs.size(); d++) {
      String doc = docs.get(d);
      letters += doc.length();
      Set<Integer> triples = new TreeSet<>();
      for (int i = 0; i + 3 <= doc.length(); i++) triples.add(triple(doc.substring(i, i + 3)));
      int often = 0;
      for (int t : triples) often += x.often(d, t);
      due("often in " + doc, often, Math.max(0, doc.length() - 2));
      fine("unlike triples of " + doc, x.document(d, 1), triples.size());
      unlike += triples.size();
      all.addAll(triples);
    }
    int inLists = 0;
    for (int t : all) inLists += lengthOfList(t);
    due("documents in all lists", inLists, unlike);
    fine("triples", x.many(3), all.size());
    fine("letters", x.many(2), letters);
  }

  private void wouldIsSo(int d, int place) {
    for (int letter = 0; letter < 26; letter++) {
      int before = x.document(d, 1);
      int would = x.would(d, place, letter);
      boolean other = x.put(d, place, letter) >= 0;
      due("would " + docs.get(d) + " " + place + " " + letter, would, x.document(d, 1) - before);
      if (other) x.undo();
    }
    same("all is undone", text(d), docs.get(d));
  }

  private void bestIsSo(int d, int place) {
    int best = x.best(d, place);
    int most = -1;
    int due = -1;
    for (int letter = 0; letter < 26; letter++) {
      boolean other = x.put(d, place, letter) >= 0;
      int fits = Integer.bitCount(x.document(d, 2));
      if (other) x.undo();
      if (fits > most) {
        most = fits;
        due = letter;
      }
    }
    due("best of " + docs.get(d) + " at " + place, best, due);
  }

  /** What is alive behind a PLACE is the same in what ends there; where a row ends, a SPOT is alive. */
  private void aliveKnowsNothingBehind(int d, int place) {
    int copied = x.copy(d, 0, place + 1);
    for (int p = 0; p < patterns.size(); p++) {
      int alive = x.alive(p, d, place);
      due("alive in a copy, " + patterns.get(p), x.alive(p, copied, place), alive);
      for (int from = 0; from <= place; from++) {
        String row = docs.get(d).substring(from, place + 1);
        if (canBe(p, row)) due(row + " is alive in " + patterns.get(p), alive != 0 ? 1 : 0, 1);
      }
    }
  }
}
