import java.util.ArrayDeque;
import java.util.ArrayList;
import java.util.Comparator;
import java.util.List;
import java.util.Set;
import java.util.TreeSet;

/**
 * The document once more, as plainly as it can be said, to be held against PatternGate: texts,
 * sets and trees of the Java library, whole copies for undo() and marks, no thought for speed.
 */
final class Model {
  static final int NONE = -1;

  private static final class Fault extends RuntimeException {
    private static final long serialVersionUID = 1L;
    final int kind;
    final int place;

    Fault(int kind, int place) {
      super(null, null, false, false);
      this.kind = kind;
      this.place = place;
    }
  }

  /** A node of a PATTERN: 's' a SPOT, '(' a list of branches, 'b' a list of items, or a SIGN. */
  private static final class Node {
    final char kind;
    final List<Node> parts = new ArrayList<>();
    String letters = "";
    int spot;

    Node(char kind) {
      this.kind = kind;
    }
  }

  private static final class Info {
    TreeSet<String> exact;
    Set<TreeSet<Integer>> need;
  }

  private static final class Pat {
    String text;
    Node tree;
    int spots;
    TreeSet<String> exact;
    List<List<Integer>> need;
  }

  private static final class State {
    List<String> docs = new ArrayList<>();
    List<Pat> pats = new ArrayList<>();

    State copy() {
      State other = new State();
      other.docs.addAll(docs);
      other.pats.addAll(pats);
      return other;
    }
  }

  private State state = new State();
  private ArrayDeque<State> undos = new ArrayDeque<>();
  private final List<State> marks = new ArrayList<>();
  private final List<ArrayDeque<State>> markUndos = new ArrayList<>();
  private final StringBuilder tape = new StringBuilder();
  private int status;
  private int faultKind = NONE;
  private int faultPlace = NONE;

  int status() {
    return status;
  }

  private int ok(int value) {
    status = 0;
    return value;
  }

  private int no(int why) {
    status = why;
    return NONE;
  }

  int feed(int... five) {
    if (tape.length() + 20 > 900) return NONE;
    for (int x : five) for (int k = 3; k >= 0; k--) tape.append((char) ((x >> (8 * k)) & 0xff));
    return tape.length();
  }

  // ---- reading

  private String src;
  private int at;
  private int spots;

  private State read(String text, State from) {
    State to = from.copy();
    src = text;
    at = 0;
    while (true) {
      blanks();
      if (at == src.length()) return to;
      int word = at;
      String name = word();
      if (name == null) throw wrongToken();
      if (!name.equals("doc") && !name.equals("pattern")) throw new Fault(2, word);
      boolean doc = name.equals("doc");
      if (doc ? to.docs.size() == 10 : to.pats.size() == 8) throw new Fault(3, word);
      blanks();
      if (at == src.length() || src.charAt(at) != '"') throw wrongToken();
      at++;
      if (doc) {
        int begin = at;
        while (true) {
          char c = inQuote();
          if (c == '"' && at > begin) break;
          if (c < 'a' || c > 'z') throw new Fault(1, at);
          if (at - begin == 60) throw new Fault(4, at);
          at++;
        }
        to.docs.add(src.substring(begin, at));
      } else {
        int begin = at;
        spots = 0;
        Pat pat = new Pat();
        pat.tree = alternatives(0);
        if (inQuote() != '"') throw new Fault(1, at);
        pat.text = src.substring(begin, at);
        pat.spots = spots;
        Info info = info(pat.tree);
        pat.exact = info.exact;
        pat.need = new ArrayList<>();
        for (TreeSet<Integer> choice : info.need) pat.need.add(new ArrayList<>(choice));
        pat.need.sort(Comparator.comparing(Model::spell));
        to.pats.add(pat);
      }
      at++;
      blanks();
      if (at == src.length() || src.charAt(at) != ';') throw wrongToken();
      at++;
    }
  }

  private static String spell(List<Integer> choice) {
    StringBuilder text = new StringBuilder();
    for (int triple : choice) text.append((char) (triple + 1));
    return text.toString();
  }

  private void blanks() {
    while (at < src.length() && (src.charAt(at) == ' ' || src.charAt(at) == '\n')) at++;
  }

  private String word() {
    int begin = at;
    while (at < src.length() && small(src.charAt(at))) at++;
    return at == begin ? null : src.substring(begin, at);
  }

  private static boolean small(char c) {
    return c >= 'a' && c <= 'z';
  }

  /** Another TOKEN than is due stands here, or none. */
  private Fault wrongToken() {
    if (at == src.length()) return new Fault(2, at);
    char c = src.charAt(at);
    return new Fault(small(c) || c == '"' || c == ';' ? 2 : 1, at);
  }

  private char inQuote() {
    if (at >= src.length()) throw new Fault(1, src.length());
    return src.charAt(at);
  }

  private Node alternatives(int deep) {
    Node node = new Node('(');
    node.parts.add(branch(deep));
    while (inQuote() == '|') {
      at++;
      node.parts.add(branch(deep));
    }
    return node;
  }

  private Node branch(int deep) {
    Node node = new Node('b');
    while (true) {
      Node item = atom(deep);
      if (item == null) {
        if (node.parts.isEmpty()) throw new Fault(1, at);
        return node;
      }
      char sign = inQuote();
      if (sign == '*' || sign == '+' || sign == '?') {
        at++;
        Node signed = new Node(sign);
        signed.parts.add(item);
        item = signed;
      }
      node.parts.add(item);
    }
  }

  private Node atom(int deep) {
    char c = inQuote();
    if (c == '(') {
      if (deep == 5) throw new Fault(4, at);
      at++;
      Node inner = alternatives(deep + 1);
      if (inQuote() != ')') throw new Fault(1, at);
      at++;
      return inner;
    }
    if (!small(c) && c != '.' && c != '[') return null;
    if (spots == 24) throw new Fault(4, at);
    Node spot = new Node('s');
    spot.spot = spots++;
    at++;
    if (c == '.') {
      spot.letters = "abcdefghijklmnopqrstuvwxyz";
    } else if (c != '[') {
      spot.letters = String.valueOf(c);
    } else {
      while (inQuote() != ']' || spot.letters.isEmpty()) {
        char d = inQuote();
        if (!small(d)) throw new Fault(1, at);
        if (spot.letters.indexOf(d) >= 0) throw new Fault(4, at);
        spot.letters += d;
        at++;
      }
      at++;
    }
    return spot;
  }

  // ---- EXACT and NEED

  private static Set<TreeSet<Integer>> least(List<TreeSet<Integer>> all) {
    Set<TreeSet<Integer>> kept = new java.util.HashSet<>();
    for (TreeSet<Integer> one : all) {
      boolean lesser = false;
      for (TreeSet<Integer> other : all) {
        if (other.size() < one.size() && one.containsAll(other)) lesser = true;
      }
      if (!lesser) kept.add(one);
    }
    return kept;
  }

  private static Set<TreeSet<Integer>> emptyChoice() {
    return least(List.of(new TreeSet<Integer>()));
  }

  private static Set<TreeSet<Integer>> ofRows(Set<String> rows) {
    List<TreeSet<Integer>> all = new ArrayList<>();
    for (String row : rows) all.add(triplesOf(row));
    return least(all);
  }

  private static TreeSet<Integer> triplesOf(String row) {
    TreeSet<Integer> triples = new TreeSet<>();
    for (int i = 0; i + 3 <= row.length(); i++) triples.add(triple(row.substring(i, i + 3)));
    return triples;
  }

  private static int triple(String three) {
    return (three.charAt(0) - 'a') * 676 + (three.charAt(1) - 'a') * 26 + three.charAt(2) - 'a';
  }

  private static Set<TreeSet<Integer>> both(Set<TreeSet<Integer>> a, Set<TreeSet<Integer>> b) {
    List<TreeSet<Integer>> all = new ArrayList<>();
    for (TreeSet<Integer> x : a) {
      for (TreeSet<Integer> y : b) {
        TreeSet<Integer> union = new TreeSet<>(x);
        union.addAll(y);
        all.add(union);
      }
    }
    Set<TreeSet<Integer>> kept = least(all);
    return kept.size() > 12 ? a : kept;
  }

  private static Set<TreeSet<Integer>> either(Set<TreeSet<Integer>> a, Set<TreeSet<Integer>> b) {
    List<TreeSet<Integer>> all = new ArrayList<>(a);
    all.addAll(b);
    Set<TreeSet<Integer>> kept = least(all);
    return kept.size() > 12 ? emptyChoice() : kept;
  }

  private static TreeSet<String> rows(String... some) {
    return new TreeSet<>(List.of(some));
  }

  private static TreeSet<String> joined(Set<String> ahead, Set<String> behind) {
    TreeSet<String> all = new TreeSet<>();
    for (String a : ahead) for (String b : behind) all.add(a + b);
    if (all.size() > 6) return null;
    for (String row : all) if (row.length() > 8) return null;
    return all;
  }

  private static Info info(Node node) {
    Info info = new Info();
    info.need = emptyChoice();
    switch (node.kind) {
      case 's':
        if (node.letters.length() <= 6) info.exact = rows(node.letters.split(""));
        return info;
      case '*':
        return info;
      case '+':
        info.need = info(node.parts.get(0)).need;
        return info;
      case '?':
        info.exact = info(node.parts.get(0)).exact;
        if (info.exact != null) info.exact.add("");
        if (info.exact != null && info.exact.size() > 6) info.exact = null;
        return info;
      case 'b':
        return branchInfo(node);
      default:
        return wholeInfo(node);
    }
  }

  private static Info branchInfo(Node node) {
    Info info = new Info();
    TreeSet<String> r = rows("");
    Set<TreeSet<Integer>> need = emptyChoice();
    boolean exact = true;
    for (Node item : node.parts) {
      Info it = info(item);
      if (it.exact == null) {
        need = both(need, ofRows(r));
        need = both(need, it.need);
        r = rows("");
        exact = false;
        continue;
      }
      TreeSet<String> longer = joined(r, it.exact);
      if (longer == null) {
        need = both(need, ofRows(r));
        TreeSet<String> tails = new TreeSet<>();
        for (String row : r) tails.add(row.substring(Math.max(0, row.length() - 2)));
        longer = joined(tails, it.exact);
        if (longer == null) longer = it.exact;
        exact = false;
      }
      r = longer;
    }
    info.need = both(need, ofRows(r));
    info.exact = exact ? r : null;
    return info;
  }

  private static Info wholeInfo(Node node) {
    Info info = new Info();
    info.exact = new TreeSet<>();
    for (Node part : node.parts) {
      Info it = info(part);
      info.need = info.need == null ? it.need : either(info.need, it.need);
      if (info.exact != null && it.exact != null) info.exact.addAll(it.exact);
      else info.exact = null;
    }
    if (info.exact != null && info.exact.size() > 6) info.exact = null;
    if (info.exact != null) info.need = ofRows(info.exact);
    return info;
  }

  private static int depth(Node node) {
    int most = 0;
    for (Node part : node.parts) most = Math.max(most, depth(part));
    return most + 1;
  }

  private static int fewest(Node node) {
    switch (node.kind) {
      case 's':
        return 1;
      case '*':
      case '?':
        return 0;
      case '+':
        return fewest(node.parts.get(0));
      case 'b': {
        int sum = 0;
        for (Node part : node.parts) sum += fewest(part);
        return sum;
      }
      default: {
        int least = Integer.MAX_VALUE;
        for (Node part : node.parts) least = Math.min(least, fewest(part));
        return least;
      }
    }
  }

  // ---- matching, by sets of places in the text between which a part can stand

  private static TreeSet<Integer> ends(Node node, String text, TreeSet<Integer> begins) {
    TreeSet<Integer> ends = new TreeSet<>();
    switch (node.kind) {
      case 's':
        for (int b : begins) {
          if (b < text.length() && node.letters.indexOf(text.charAt(b)) >= 0) ends.add(b + 1);
        }
        return ends;
      case '?':
        ends.addAll(begins);
        ends.addAll(ends(node.parts.get(0), text, begins));
        return ends;
      case '*':
        return closure(node.parts.get(0), text, begins);
      case '+':
        return ends(node.parts.get(0), text, closure(node.parts.get(0), text, begins));
      case 'b': {
        TreeSet<Integer> now = begins;
        for (Node part : node.parts) now = ends(part, text, now);
        return now;
      }
      default:
        for (Node part : node.parts) ends.addAll(ends(part, text, begins));
        return ends;
    }
  }

  private static TreeSet<Integer> closure(Node atom, String text, TreeSet<Integer> begins) {
    TreeSet<Integer> all = new TreeSet<>(begins);
    while (all.addAll(ends(atom, text, all))) {
      // as long as there are more
    }
    return all;
  }

  private static int alive(Node node, String text, int place, TreeSet<Integer> begins) {
    switch (node.kind) {
      case 's':
        return begins.contains(place) && node.letters.indexOf(text.charAt(place)) >= 0
            ? 1 << node.spot : 0;
      case '?':
        return alive(node.parts.get(0), text, place, begins);
      case '*':
      case '+':
        return alive(node.parts.get(0), text, place, closure(node.parts.get(0), text, begins));
      case 'b': {
        int bits = 0;
        TreeSet<Integer> now = begins;
        for (Node part : node.parts) {
          bits |= alive(part, text, place, now);
          now = ends(part, text, now);
        }
        return bits;
      }
      default: {
        int bits = 0;
        for (Node part : node.parts) bits |= alive(part, text, place, begins);
        return bits;
      }
    }
  }

  /** PLACE and LETTERS of the FIRST MATCH from a place on, or null. */
  private static int[] first(Pat pat, String text, int from) {
    for (int b = from; b <= text.length(); b++) {
      TreeSet<Integer> ends = ends(pat.tree, text, new TreeSet<>(List.of(b)));
      if (!ends.isEmpty()) return new int[] {b, ends.last() - b};
    }
    return null;
  }

  private static boolean fits(Pat pat, String text) {
    return first(pat, text, 0) != null;
  }

  // ---- the calls

  private String doc(int i) {
    return i < 0 || i >= state.docs.size() ? null : state.docs.get(i);
  }

  private Pat pat(int i) {
    return i < 0 || i >= state.pats.size() ? null : state.pats.get(i);
  }

  private void act(State next) {
    undos.addLast(state);
    if (undos.size() > 8) undos.removeFirst();
    state = next;
  }

  private State take(int n, State from) {
    String text = tape.substring(0, n);
    tape.setLength(0);
    try {
      State next = read(text, from);
      faultKind = 0;
      faultPlace = NONE;
      return next;
    } catch (Fault fault) {
      faultKind = fault.kind;
      faultPlace = fault.place;
      return null;
    }
  }

  int load(int n) {
    if (n < 0 || n > tape.length()) return no(1);
    State next = take(n, new State());
    if (next == null) return no(9);
    act(next);
    return ok(next.docs.size());
  }

  int more(int n) {
    if (n < 0 || n > tape.length()) return no(1);
    State next = take(n, state);
    if (next == null) return no(9);
    int ahead = state.docs.size() + state.pats.size();
    act(next);
    return ok(next.docs.size() + next.pats.size() - ahead);
  }

  int fault(int what) {
    return what == 0 ? faultKind : what == 1 ? faultPlace : NONE;
  }

  int many(int what) {
    int letters = 0;
    TreeSet<Integer> triples = new TreeSet<>();
    for (String doc : state.docs) {
      letters += doc.length();
      triples.addAll(triplesOf(doc));
    }
    int[] all = {state.docs.size(), state.pats.size(), letters, triples.size(), undos.size(),
        marks.size()};
    return what < 0 || what > 5 ? no(1) : ok(all[what]);
  }

  int document(int document, int what) {
    if (what < 0 || what > 3) return no(1);
    String doc = doc(document);
    if (doc == null) return no(2);
    if (what == 0) return ok(doc.length());
    if (what == 1) return ok(triplesOf(doc).size());
    int bits = 0;
    for (int i = 0; i < state.pats.size(); i++) {
      boolean yes = what == 2 ? fits(state.pats.get(i), doc)
          : (walk(state.pats.get(i))[0] >> document & 1) != 0;
      if (yes) bits |= 1 << i;
    }
    return ok(bits);
  }

  int letter(int document, int place) {
    if (place < 0) return no(1);
    String doc = doc(document);
    if (doc == null) return no(2);
    return place >= doc.length() ? no(5) : ok(doc.charAt(place) - 'a');
  }

  int pattern(int pattern, int what) {
    if (what < 0 || what > 7) return no(1);
    Pat pat = pat(pattern);
    if (pat == null) return no(2);
    TreeSet<Integer> triples = new TreeSet<>();
    for (List<Integer> choice : pat.need) triples.addAll(choice);
    int[] all = {pat.text.length(), pat.spots, pat.need.size(),
        pat.exact == null ? NONE : pat.exact.size(), fits(pat, "") ? 1 : 0, fewest(pat.tree),
        triples.size(), depth(pat.tree)};
    return ok(all[what]);
  }

  int sign(int pattern, int i) {
    if (i < 0) return no(1);
    Pat pat = pat(pattern);
    if (pat == null) return no(2);
    return i >= pat.text.length() ? no(5) : ok(pat.text.charAt(i));
  }

  int exact(int pattern, int i, int k) {
    if (i < 0 || k < 0) return no(1);
    Pat pat = pat(pattern);
    if (pat == null) return no(2);
    if (pat.exact == null || i >= pat.exact.size()) return no(5);
    String row = new ArrayList<>(pat.exact).get(i);
    return k >= row.length() ? no(5) : ok(row.charAt(k) - 'a');
  }

  int need(int pattern, int i, int k) {
    if (i < 0 || k < 0) return no(1);
    Pat pat = pat(pattern);
    if (pat == null) return no(2);
    if (i >= pat.need.size() || k >= pat.need.get(i).size()) return no(5);
    return ok(pat.need.get(i).get(k));
  }

  private List<Integer> listOf(int triple) {
    List<Integer> list = new ArrayList<>();
    for (int i = 0; i < state.docs.size(); i++) {
      if (triplesOf(state.docs.get(i)).contains(triple)) list.add(i);
    }
    return list;
  }

  int list(int triple, int i) {
    if (triple < 0 || triple > 17575 || i < 0) return no(1);
    List<Integer> list = listOf(triple);
    return i >= list.size() ? no(5) : ok(list.get(i));
  }

  int often(int document, int triple) {
    if (triple < 0 || triple > 17575) return no(1);
    String doc = doc(document);
    if (doc == null) return no(2);
    int times = 0;
    for (int i = 0; i + 3 <= doc.length(); i++) {
      if (triple(doc.substring(i, i + 3)) == triple) times++;
    }
    return ok(times);
  }

  /** CANDIDATES and LEAPS. */
  private int[] walk(Pat pat) {
    int candidates = 0;
    int leaps = 0;
    for (List<Integer> choice : pat.need) {
      if (choice.isEmpty()) {
        for (int i = 0; i < state.docs.size(); i++) candidates |= 1 << i;
        continue;
      }
      List<List<Integer>> lists = new ArrayList<>();
      for (int triple : choice) lists.add(listOf(triple));
      TreeSet<Integer> agreed = new TreeSet<>();
      int at = 0;
      for (int which = 0; ; which = (which + 1) % lists.size()) {
        leaps++;
        int found = NONE;
        for (int doc : lists.get(which)) if (doc >= at && found == NONE) found = doc;
        if (found == NONE) break;
        if (found > at) agreed.clear();
        at = found;
        agreed.add(which);
        if (agreed.size() == lists.size()) {
          candidates |= 1 << at;
          at++;
          agreed.clear();
        }
      }
    }
    return new int[] {candidates, leaps};
  }

  int gate(int pattern, int what) {
    if (what < 0 || what > 3) return no(1);
    Pat pat = pat(pattern);
    if (pat == null) return no(2);
    int fit = 0;
    for (int i = 0; i < state.docs.size(); i++) if (fits(pat, state.docs.get(i))) fit |= 1 << i;
    int[] walk = walk(pat);
    if ((fit & ~walk[0]) != 0) throw new IllegalStateException("a gate that keeps out what fits");
    return ok(what == 0 ? walk[0] : what == 1 ? walk[1] : what == 2 ? fit
        : Integer.bitCount(walk[0] & ~fit));
  }

  int match(int pattern, int document, int what) {
    if (what < 0 || what > 2) return no(1);
    Pat pat = pat(pattern);
    String doc = doc(document);
    if (pat == null || doc == null) return no(2);
    int[] first = first(pat, doc, 0);
    if (what < 2) return first == null ? no(5) : ok(first[what]);
    int matches = 0;
    while (first != null) {
      matches++;
      int from = first[0] + Math.max(1, first[1]);
      first = first(pat, doc, from);
    }
    return ok(matches);
  }

  int alive(int pattern, int document, int place) {
    if (place < 0) return no(1);
    Pat pat = pat(pattern);
    String doc = doc(document);
    if (pat == null || doc == null) return no(2);
    if (place >= doc.length()) return no(5);
    TreeSet<Integer> begins = new TreeSet<>();
    for (int i = 0; i <= place; i++) begins.add(i);
    return ok(alive(pat.tree, doc, place, begins));
  }

  int rarest(int pattern) {
    Pat pat = pat(pattern);
    if (pat == null) return no(2);
    TreeSet<Integer> triples = new TreeSet<>();
    for (List<Integer> choice : pat.need) triples.addAll(choice);
    int best = NONE;
    for (int triple : triples) {
      if (best == NONE || listOf(triple).size() < listOf(best).size()) best = triple;
    }
    return best == NONE ? no(5) : ok(best);
  }

  int within(int pattern, int other) {
    Pat inner = pat(pattern);
    Pat outer = pat(other);
    if (inner == null || outer == null) return no(2);
    for (List<Integer> one : inner.need) {
      boolean some = false;
      for (List<Integer> two : outer.need) some |= one.containsAll(two);
      if (!some) return ok(0);
    }
    return ok(1);
  }

  private static String with(String doc, int place, int letter) {
    return doc.substring(0, place) + (char) ('a' + letter) + doc.substring(place + 1);
  }

  private void change(int document, String text) {
    State next = state.copy();
    next.docs.set(document, text);
    act(next);
  }

  int put(int document, int place, int letter) {
    if (letter < 0 || letter > 25 || place < 0) return no(1);
    String doc = doc(document);
    if (doc == null) return no(2);
    if (place >= doc.length()) return no(5);
    int stood = doc.charAt(place) - 'a';
    if (stood == letter) return no(4);
    change(document, with(doc, place, letter));
    return ok(stood);
  }

  int let(int document, int place, int letter) {
    if (letter < 0 || letter > 25 || place < 0) return no(1);
    String doc = doc(document);
    if (doc == null) return no(2);
    if (place > doc.length()) return no(5);
    if (doc.length() == 60) return no(6);
    change(document, doc.substring(0, place) + (char) ('a' + letter) + doc.substring(place));
    return ok(doc.length() + 1);
  }

  int cut(int document, int place, int many) {
    if (place < 0 || many < 1) return no(1);
    String doc = doc(document);
    if (doc == null) return no(2);
    if ((long) place + many > doc.length()) return no(5);
    if (many == doc.length()) return no(6);
    change(document, doc.substring(0, place) + doc.substring(place + many));
    return ok(doc.length() - many);
  }

  int copy(int document, int place, int many) {
    if (place < 0 || many < 1) return no(1);
    String doc = doc(document);
    if (doc == null) return no(2);
    if (state.docs.size() == 10) return no(3);
    if ((long) place + many > doc.length()) return no(5);
    State next = state.copy();
    next.docs.add(doc.substring(place, place + many));
    act(next);
    return ok(next.docs.size() - 1);
  }

  int drop(int document) {
    if (doc(document) == null) return no(2);
    State next = state.copy();
    next.docs.remove(document);
    act(next);
    return ok(next.docs.size());
  }

  int forget(int pattern) {
    if (pat(pattern) == null) return no(2);
    State next = state.copy();
    next.pats.remove(pattern);
    act(next);
    return ok(next.pats.size());
  }

  int undo() {
    if (undos.isEmpty()) return no(5);
    state = undos.removeLast();
    return ok(undos.size());
  }

  int mark() {
    if (marks.size() == 3) return no(3);
    marks.add(state);
    markUndos.add(new ArrayDeque<>(undos));
    return ok(marks.size());
  }

  int back() {
    if (marks.isEmpty()) return no(5);
    state = marks.remove(marks.size() - 1);
    undos = markUndos.remove(markUndos.size() - 1);
    return ok(marks.size());
  }

  int would(int document, int place, int letter) {
    if (letter < 0 || letter > 25 || place < 0) return no(1);
    String doc = doc(document);
    if (doc == null) return no(2);
    if (place >= doc.length()) return no(5);
    return ok(triplesOf(with(doc, place, letter)).size() - triplesOf(doc).size());
  }

  int best(int document, int place) {
    if (place < 0) return no(1);
    String doc = doc(document);
    if (doc == null) return no(2);
    if (place >= doc.length()) return no(5);
    int best = 0;
    int most = NONE;
    for (int letter = 0; letter < 26; letter++) {
      int count = 0;
      for (Pat pat : state.pats) if (fits(pat, with(doc, place, letter))) count++;
      if (count > most) {
        most = count;
        best = letter;
      }
    }
    return ok(best);
  }
}
