import java.util.Random;

/** Long runs of chance calls, the same ones each time, on PatternGate and on the plain model. */
public final class ModelTest {
  /** An object is used for at most so many calls. */
  private static final int CALLS = 512;
  /** The most that one step takes: 45 times feed(), load(), four times fault(), each with status(). */
  private static final int STEP = 110;

  private final Random chance;
  private final ChanceTexts texts;
  private final PatternGate gate = new PatternGate();
  private final Model model = new Model();
  private final StringBuilder story = new StringBuilder();
  private int calls;

  private ModelTest(long seed) {
    chance = new Random(seed);
    texts = new ChanceTexts(chance, 2 + chance.nextInt(3));
  }

  public static void main(String[] args) {
    int runs = args.length > 0 ? Integer.parseInt(args[0]) : 900;
    int wrong = 0;
    for (int seed = 1; seed <= runs && wrong < 5; seed++) {
      ModelTest test = new ModelTest(seed);
      String fault = test.run();
      if (fault != null) {
        wrong++;
        System.out.println("run " + seed + ": " + fault + "\n" + test.story);
      }
    }
    System.out.println(wrong == 0 ? "ModelTest: " + runs + " runs agree" : "ModelTest: runs differ");
    if (wrong != 0) System.exit(1);
  }

  private String run() {
    tell();
    while (calls < CALLS - STEP) {
      String fault = chance.nextInt(14) == 0 ? tell() : call();
      if (fault != null) return fault;
    }
    return null;
  }

  // ---- texts

  private String doc() {
    return texts.doc(chance.nextInt(12) == 0 ? 55 + chance.nextInt(7) : 1 + chance.nextInt(20));
  }

  private String pattern() {
    return texts.pattern(chance.nextInt(8) == 0 ? 26 : 3 + chance.nextInt(20));
  }

  private String blanks(boolean some) {
    int kind = chance.nextInt(8);
    return kind == 0 ? " \n " : kind == 1 || some ? " " : "";
  }

  private String book() {
    StringBuilder text = new StringBuilder();
    int lines = chance.nextInt(chance.nextInt(6) == 0 ? 22 : 6);
    for (int i = 0; i < lines && text.length() < 700; i++) {
      text.append(blanks(false));
      if (chance.nextBoolean()) {
        text.append("doc").append(blanks(true)).append('"').append(doc()).append('"');
      } else {
        text.append("pattern").append(blanks(true)).append('"').append(pattern()).append('"');
      }
      text.append(blanks(false)).append(';');
    }
    if (chance.nextInt(3) == 0 && text.length() > 0) {
      int at = chance.nextInt(text.length());
      String odd = "\"\";;()[]|*+?. \nzdq5\u0000\u00e9";
      char c = odd.charAt(chance.nextInt(odd.length()));
      int kind = chance.nextInt(4);
      if (kind == 0) text.setCharAt(at, c);
      else if (kind == 1) text.insert(at, c);
      else if (kind == 2) text.deleteCharAt(at);
      else text.setLength(at);
    }
    if (text.length() > 900) text.setLength(900);
    return text.toString();
  }

  private String tell() {
    String text = book();
    int n = text.length();
    while (text.length() % 20 != 0) text += (char) chance.nextInt(256);
    for (int i = 0; i < text.length(); i += 20) {
      int[] x = new int[5];
      for (int k = 0; k < 20; k++) x[k / 4] = x[k / 4] << 8 | text.charAt(i + k);
      String fault = same("feed", gate.feed(x[0], x[1], x[2], x[3], x[4]), model.feed(x));
      if (fault != null) return fault;
    }
    boolean load = chance.nextInt(4) == 0 || calls < 60 && chance.nextBoolean();
    if (chance.nextInt(10) == 0) n = chance.nextInt(960) - 30;
    story.append(text).append('\n');
    String fault = load ? same("load(" + n + ")", gate.load(n), model.load(n))
        : same("more(" + n + ")", gate.more(n), model.more(n));
    for (int what = -1; what < 3 && fault == null; what++) {
      fault = same("fault(" + what + ")", gate.fault(what), model.fault(what));
    }
    return fault;
  }

  // ---- calls

  private String same(String call, int got, int due) {
    calls += 2;
    story.append(call).append(" = ").append(got).append('\n');
    if (got != due) return call + " answered " + got + ", due is " + due;
    if (gate.status() != model.status()) {
      return call + " has status " + gate.status() + ", due is " + model.status();
    }
    return null;
  }

  /** Mostly a number below the bound, at times one at its edges or far out. */
  private int number(int bound) {
    switch (chance.nextInt(24)) {
      case 0:
        return -1;
      case 1:
        return bound;
      case 2:
        return chance.nextInt(40) == 0 ? (chance.nextBoolean() ? Integer.MIN_VALUE
            : Integer.MAX_VALUE) : bound - 1;
      default:
        return bound <= 0 ? 0 : chance.nextInt(bound);
    }
  }

  private int anyDocument() {
    return number(Math.max(1, model.many(0)));
  }

  private int anyPattern() {
    return number(Math.max(1, model.many(1)));
  }

  private int lengthOf(int document) {
    int before = model.document(document, 0);
    return Math.max(1, before);
  }

  private int letter() {
    return texts.small() - 'a';
  }

  private int anyTriple() {
    if (chance.nextInt(8) == 0) return number(17576);
    return letter() * 676 + letter() * 26 + letter();
  }

  private String call() {
    int d = anyDocument();
    int p = anyPattern();
    int place = number(lengthOf(d));
    int what = number(4);
    // asking the model about bounds has changed its status: bring both to the same again
    calls++;
    gate.many(0);
    model.many(0);
    switch (chance.nextInt(30)) {
      case 0: {
        int w = number(6);
        return same("many(" + w + ")", gate.many(w), model.many(w));
      }
      case 1:
      case 2:
        return same("document(" + d + "," + what + ")", gate.document(d, what),
            model.document(d, what));
      case 3:
        return same("letter(" + d + "," + place + ")", gate.letter(d, place),
            model.letter(d, place));
      case 4:
      case 5: {
        int w = number(8);
        return same("pattern(" + p + "," + w + ")", gate.pattern(p, w), model.pattern(p, w));
      }
      case 6: {
        int i = number(30);
        return same("sign(" + p + "," + i + ")", gate.sign(p, i), model.sign(p, i));
      }
      case 7:
      case 8: {
        int i = number(7);
        int k = number(8);
        return same("exact(" + p + "," + i + "," + k + ")", gate.exact(p, i, k),
            model.exact(p, i, k));
      }
      case 9:
        return allNeeds(p);
      default:
        return laterCall(d, p, place, what);
    }
  }

  private String allNeeds(int p) {
    for (int i = 0; i < 13; i++) {
      for (int k = 0; k < 25 && calls < CALLS - 10; k++) {
        calls += 2;
        int got = gate.need(p, i, k);
        int due = model.need(p, i, k);
        String fault = got != due || gate.status() != model.status()
            ? same("need(" + p + "," + i + "," + k + ")", got, due) : null;
        if (fault != null) return fault;
        if (got < 0) break;
      }
    }
    for (int i = 0; i < 7; i++) {
      for (int k = 0; k < 9 && calls < CALLS - 10; k++) {
        calls++;
        int got = gate.exact(p, i, k);
        int due = model.exact(p, i, k);
        if (got != due) return same("exact(" + p + "," + i + "," + k + ")", got, due);
      }
    }
    return same("need(" + p + ",-1,0)", gate.need(p, -1, 0), model.need(p, -1, 0));
  }

  private String laterCall(int d, int p, int place, int what) {
    int t = anyTriple();
    int letter = chance.nextInt(12) == 0 ? number(26) : letter();
    int span = chance.nextInt(4) == 0 ? number(lengthOf(d) + 1) : 1 + chance.nextInt(3);
    calls++;
    gate.many(0);
    model.many(0);
    String at = "(" + d + "," + place + ",";
    switch (chance.nextInt(22)) {
      case 0: {
        int i = number(4);
        return same("list(" + t + "," + i + ")", gate.list(t, i), model.list(t, i));
      }
      case 1:
        return same("often(" + d + "," + t + ")", gate.often(d, t), model.often(d, t));
      case 2:
      case 3:
      case 4:
        return same("gate(" + p + "," + what + ")", gate.gate(p, what), model.gate(p, what));
      case 5:
      case 6:
      case 7: {
        int w = number(3);
        return same("match(" + p + "," + d + "," + w + ")", gate.match(p, d, w),
            model.match(p, d, w));
      }
      case 8:
      case 9:
        return same("alive(" + p + "," + d + "," + place + ")", gate.alive(p, d, place),
            model.alive(p, d, place));
      case 10:
        return same("rarest(" + p + ")", gate.rarest(p), model.rarest(p));
      case 11: {
        int o = anyPattern();
        return same("within(" + p + "," + o + ")", gate.within(p, o), model.within(p, o));
      }
      case 12:
        return same("put" + at + letter + ")", gate.put(d, place, letter),
            model.put(d, place, letter));
      case 13:
        return same("let" + at + letter + ")", gate.let(d, place, letter),
            model.let(d, place, letter));
      case 14:
        return same("cut" + at + span + ")", gate.cut(d, place, span), model.cut(d, place, span));
      case 15:
        return same("copy" + at + span + ")", gate.copy(d, place, span),
            model.copy(d, place, span));
      case 16:
        if (chance.nextInt(3) > 0) return null;
        return chance.nextBoolean() ? same("drop(" + d + ")", gate.drop(d), model.drop(d))
            : same("forget(" + p + ")", gate.forget(p), model.forget(p));
      case 17:
        return same("undo()", gate.undo(), model.undo());
      case 18:
        return chance.nextInt(3) > 0 ? same("mark()", gate.mark(), model.mark())
            : same("back()", gate.back(), model.back());
      case 19:
        return same("would" + at + letter + ")", gate.would(d, place, letter),
            model.would(d, place, letter));
      default:
        return same("best(" + d + "," + place + ")", gate.best(d, place), model.best(d, place));
    }
  }
}
