import java.util.ArrayList;
import java.util.List;

/**
 * Every call with every mixture of numbers at and beyond all limits of the document, on an object
 * that is new, one with something in it and one that is full, held against the plain model.
 */
public final class ExtremesTest {
  private static final int[] NUMBERS = {Integer.MIN_VALUE, Integer.MIN_VALUE + 1, -2, -1, 0, 1, 2, 3, 5, 6, 7, 8, 9,
    10, 11, 25, 26, 59, 60, 61, 17575, 17576, Integer.MAX_VALUE - 1, Integer.MAX_VALUE};
  private static final int[] BYTES = {Integer.MIN_VALUE, -1, 0, 1, 19, 20, 21, 39, 40, 41, 899, 900, 901, Integer.MAX_VALUE};
  /** Fewer calls than an object is made for, with room for building it up. */
  private static final int CALLS = 340;

  private interface Call {
    int on(PatternGate gate, int a, int b, int c);
  }

  private interface ModelCall {
    int on(Model model, int a, int b, int c);
  }

  private static int wrong = 0;
  private static int made = 0;

  private final int state;
  private PatternGate gate;
  private Model model;
  private int calls = CALLS;

  private ExtremesTest(int state) {
    this.state = state;
  }

  public static void main(String[] args) {
    for (int state = 0; state < 3; state++) {
      ExtremesTest test = new ExtremesTest(state);
      test.questions();
      test.acts();
      test.tape();
    }
    System.out.println("ExtremesTest: " + made + " calls, " + wrong + " wrong");
    if (wrong != 0) System.exit(1);
  }

  private void tell(String text) {
    StringBuilder padded = new StringBuilder(text);
    while (padded.length() % 20 != 0) padded.append(' ');
    for (int i = 0; i < padded.length(); i += 20) {
      int[] five = new int[5];
      for (int k = 0; k < 20; k++) five[k / 4] = five[k / 4] << 8 | padded.charAt(i + k);
      gate.feed(five[0], five[1], five[2], five[3], five[4]);
      model.feed(five);
    }
  }

  private void more(String text) {
    tell(text);
    gate.more(text.length());
    model.more(text.length());
  }

  private void build() {
    calls = 0;
    gate = new PatternGate();
    model = new Model();
    if (state == 1) {
      more("doc\"abcabc\";doc\"z\";pattern\"abc|b.?\";pattern\"a*\";");
      tell("doc\"tape\";");
    }
    if (state == 2) {
      String sixty = "abcdefghij".repeat(6);
      StringBuilder docs = new StringBuilder("doc\"a\";doc\"ab\";doc\"zzz\";");
      for (int i = 0; i < 7; i++) docs.append("doc\"").append(sixty).append("\";");
      more(docs.toString());
      more("pattern\"[ab]cd\";pattern\"zzz\";pattern\"a?\";pattern\"" + "a".repeat(24) + "\";pattern\"(((((a)*)*)*)*)*\";"
          + "pattern\"[abcdef]xy.|[ghijkl]xy.\";pattern\"a|b|c|d|e|f\";pattern\"abcdefgh\";");
      for (int i = 0; i < 8; i++) {
        gate.put(0, 0, i + 1);
        model.put(0, 0, i + 1);
      }
      for (int i = 0; i < 3; i++) {
        gate.mark();
        model.mark();
      }
      for (int i = 0; i < 45; i++) tell(" ");
    }
  }

  private void same(String call, int got, int due) {
    made++;
    calls += 2;
    if (got != due || gate.status() != model.status()) {
      wrong++;
      System.out.println("state " + state + ": " + call + " answered " + got + " with " + gate.status() + ", due is " + due
          + " with " + model.status());
    }
  }

  /** All mixtures of so many numbers; an ACT that is made is undone, so that each meets the same object. */
  private void all(String name, int numbers, boolean act, Call call, ModelCall due) {
    List<int[]> mixtures = new ArrayList<>();
    for (int a : NUMBERS) {
      for (int b : numbers > 1 ? NUMBERS : new int[1]) {
        for (int c : numbers > 2 ? NUMBERS : new int[1]) mixtures.add(new int[] {a, b, c});
      }
    }
    for (int[] m : mixtures) {
      if (calls >= CALLS) build();
      int got = call.on(gate, m[0], m[1], m[2]);
      same(name + "(" + m[0] + ", " + m[1] + ", " + m[2] + ")", got, due.on(model, m[0], m[1], m[2]));
      if (act && model.status() == 0) same("undo()", gate.undo(), model.undo());
    }
  }

  private void questions() {
    all("fault", 1, false, (g, a, b, c) -> g.fault(a), (m, a, b, c) -> m.fault(a));
    all("many", 1, false, (g, a, b, c) -> g.many(a), (m, a, b, c) -> m.many(a));
    all("document", 2, false, (g, a, b, c) -> g.document(a, b), (m, a, b, c) -> m.document(a, b));
    all("letter", 2, false, (g, a, b, c) -> g.letter(a, b), (m, a, b, c) -> m.letter(a, b));
    all("pattern", 2, false, (g, a, b, c) -> g.pattern(a, b), (m, a, b, c) -> m.pattern(a, b));
    all("sign", 2, false, (g, a, b, c) -> g.sign(a, b), (m, a, b, c) -> m.sign(a, b));
    all("exact", 3, false, (g, a, b, c) -> g.exact(a, b, c), (m, a, b, c) -> m.exact(a, b, c));
    all("need", 3, false, (g, a, b, c) -> g.need(a, b, c), (m, a, b, c) -> m.need(a, b, c));
    all("list", 2, false, (g, a, b, c) -> g.list(a, b), (m, a, b, c) -> m.list(a, b));
    all("often", 2, false, (g, a, b, c) -> g.often(a, b), (m, a, b, c) -> m.often(a, b));
    all("gate", 2, false, (g, a, b, c) -> g.gate(a, b), (m, a, b, c) -> m.gate(a, b));
    all("match", 3, false, (g, a, b, c) -> g.match(a, b, c), (m, a, b, c) -> m.match(a, b, c));
    all("alive", 3, false, (g, a, b, c) -> g.alive(a, b, c), (m, a, b, c) -> m.alive(a, b, c));
    all("rarest", 1, false, (g, a, b, c) -> g.rarest(a), (m, a, b, c) -> m.rarest(a));
    all("within", 2, false, (g, a, b, c) -> g.within(a, b), (m, a, b, c) -> m.within(a, b));
    all("would", 3, false, (g, a, b, c) -> g.would(a, b, c), (m, a, b, c) -> m.would(a, b, c));
    all("best", 2, false, (g, a, b, c) -> g.best(a, b), (m, a, b, c) -> m.best(a, b));
  }

  private void acts() {
    all("put", 3, true, (g, a, b, c) -> g.put(a, b, c), (m, a, b, c) -> m.put(a, b, c));
    all("let", 3, true, (g, a, b, c) -> g.let(a, b, c), (m, a, b, c) -> m.let(a, b, c));
    all("cut", 3, true, (g, a, b, c) -> g.cut(a, b, c), (m, a, b, c) -> m.cut(a, b, c));
    all("copy", 3, true, (g, a, b, c) -> g.copy(a, b, c), (m, a, b, c) -> m.copy(a, b, c));
    all("drop", 1, true, (g, a, b, c) -> g.drop(a), (m, a, b, c) -> m.drop(a));
    all("forget", 1, true, (g, a, b, c) -> g.forget(a), (m, a, b, c) -> m.forget(a));
    all("mark", 1, false, (g, a, b, c) -> g.mark(), (m, a, b, c) -> m.mark());
    all("back", 1, false, (g, a, b, c) -> g.back(), (m, a, b, c) -> m.back());
    all("undo", 1, false, (g, a, b, c) -> g.undo(), (m, a, b, c) -> m.undo());
  }

  private void tape() {
    for (int n : BYTES) {
      build();
      same("load(" + n + ")", gate.load(n), model.load(n));
      same("feed", gate.feed(n, n, n, n, n), model.feed(n, n, n, n, n));
      same("load(20)", gate.load(20), model.load(20));
      same("fault(0)", gate.fault(0), model.fault(0));
      build();
      same("more(" + n + ")", gate.more(n), model.more(n));
      same("feed", gate.feed(n, n, n, n, n), model.feed(n, n, n, n, n));
      same("more(20)", gate.more(20), model.more(20));
      same("fault(1)", gate.fault(1), model.fault(1));
    }
  }
}
