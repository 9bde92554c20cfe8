import java.util.function.ToIntFunction;

/** ==== 4. and the promises: each sentence that names a boundary case has a test of its own. */
public final class EdgesOfCallsTest extends Checks {
  private static final int MIN = Integer.MIN_VALUE;
  private static final int MAX = Integer.MAX_VALUE;
  /** Numbers below 0, and far out. */
  private static final int[] BELOW = {-1, -2, MIN, MIN + 1};

  private EdgesOfCallsTest() {
    super("==== 4.");
  }

  public static void main(String[] args) {
    EdgesOfCallsTest t = new EdgesOfCallsTest();
    t.firstThatHolds();
    t.numberThatCantBe();
    t.noSuch();
    t.oneTooMany();
    t.isSo();
    t.thereIsNone();
    t.noLetterOrMoreThan60();
    t.aFault();
    t.allElse();
    t.whatARefusedCallLeaves();
    t.whatAFaultLeaves();
    t.callsWithoutStatus();
    t.newObject();
    t.status();
    t.feed();
    t.feedTooMany();
    t.loadFirstBytes();
    t.loadRefused();
    t.more();
    t.moreRefused();
    t.fault();
    t.faultOfOthers();
    t.many();
    t.document();
    t.letter();
    t.pattern();
    t.patternWithoutExact();
    t.sign();
    t.exact();
    t.need();
    t.list();
    t.often();
    t.gate();
    t.match();
    t.alive();
    t.rarest();
    t.within();
    t.put();
    t.let();
    t.cut();
    t.copy();
    t.drop();
    t.forget();
    t.undo();
    t.mark();
    t.back();
    t.would();
    t.wouldNone();
    t.best();
    t.bestOfSeveral();
    end("EdgesOfCallsTest");
  }

  /** DOCUMENTS 0 to 2 with 6, 3 and 60 LETTERS, PATTERNS 0 to 2. */
  private void begin() {
    x = new PatternGate();
    loaded(docs("abcdef", "xyz", repeat("ab", 30)) + patterns("abc|xyz", "b?", "a.c"));
  }

  // ---- ==== 4.

  private void firstThatHolds() {
    sentence("STATUS of a call is the first of these that holds:");
    begin();
    refused("1 ahead of 2, 5", x.letter(9, -1), 1);
    refused("2 ahead of 5", x.letter(9, 99), 2);
    refused("1 ahead of 2, 5", x.exact(9, 99, -1), 1);
    refused("1 ahead of 4", x.put(0, -1, 0), 1);
    refused("2 ahead of 4, 5", x.put(9, 99, 0), 2);
    refused("1 ahead of 5, 6", x.cut(1, 3, 0), 1);
    refused("5 ahead of 6", x.cut(1, 0, 4), 5);
    refused("5 ahead of 6", x.let(2, 61, 0), 5);
    refused("2 ahead of 6", x.let(9, 0, 0), 2);
    x.more(tell(docsOf(7)));
    refused("1 ahead of 2, 3, 5", x.copy(99, 99, 0), 1);
    refused("2 ahead of 3, 5", x.copy(99, 99, 1), 2);
    refused("3 ahead of 5", x.copy(0, 99, 1), 3);
    tell("5");
    refused("1 ahead of 9", x.load(21), 1);
    refused("1 ahead of 9", x.more(-1), 1);
    refused("then 9", x.more(1), 9);
  }

  private void numberThatCantBe() {
    sentence("1 a number that can't be (below 0, too, of one that counts).");
    begin();
    refused("what", x.many(6), 1);
    refused("what of a DOCUMENT", x.document(0, 4), 1);
    refused("what of a PATTERN", x.pattern(0, 8), 1);
    refused("what of a GATE", x.gate(0, 4), 1);
    refused("what of a match", x.match(0, 0, 3), 1);
    refused("a TRIPLE", x.list(17576, 0), 1);
    refused("a TRIPLE", x.often(0, 17576), 1);
    refused("a LETTER to put", x.put(0, 0, 26), 1);
    refused("a LETTER to let in", x.let(0, 0, 26), 1);
    refused("a LETTER on paper", x.would(0, 0, 26), 1);
    refused("no LETTERS to cut", x.cut(0, 0, 0), 1);
    refused("no LETTERS to copy", x.copy(0, 0, 0), 1);
    refused("more bytes than there are", x.load(1), 1);
    refused("bytes below 0", x.load(-1), 1);
    refused("bytes below 0", x.more(-1), 1);
    refused("a PLACE below 0", x.letter(0, -1), 1);
    refused("a byte below 0", x.sign(0, -1), 1);
    refused("a row below 0", x.exact(0, -1, 0), 1);
    refused("a CHOICE below 0", x.need(0, -1, 0), 1);
    refused("the i-th below 0", x.list(28, -1), 1);
    refused("a PLACE below 0", x.alive(0, 0, -1), 1);
    refused("a PLACE below 0", x.best(0, -1), 1);
  }

  private void noSuch() {
    sentence("2 no such DOCUMENT, PATTERN.");
    begin();
    for (int i : new int[] {3, -1, MAX, MIN}) {
      refused("document", x.document(i, 0), 2);
      refused("letter", x.letter(i, 0), 2);
      refused("often", x.often(i, 0), 2);
      refused("match", x.match(0, i, 0), 2);
      refused("alive", x.alive(0, i, 0), 2);
      refused("put", x.put(i, 0, 0), 2);
      refused("let", x.let(i, 0, 0), 2);
      refused("cut", x.cut(i, 0, 1), 2);
      refused("copy", x.copy(i, 0, 1), 2);
      refused("drop", x.drop(i), 2);
      refused("would", x.would(i, 0, 0), 2);
      refused("best", x.best(i, 0), 2);
      refused("pattern", x.pattern(i, 0), 2);
      refused("sign", x.sign(i, 0), 2);
      refused("exact", x.exact(i, 0, 0), 2);
      refused("need", x.need(i, 0, 0), 2);
      refused("gate", x.gate(i, 0), 2);
      refused("match", x.match(i, 0, 0), 2);
      refused("alive", x.alive(i, 0, 0), 2);
      refused("rarest", x.rarest(i), 2);
      refused("within", x.within(i, 0), 2);
      refused("within", x.within(0, i), 2);
      refused("forget", x.forget(i), 2);
    }
    fine("the last DOCUMENT", x.document(2, 0), 60);
    fine("the last PATTERN", x.pattern(2, 0), 3);
  }

  private void oneTooMany() {
    sentence("3 one too many.");
    loaded(docsOf(9));
    fine("the tenth", x.copy(0, 0, 1), 9);
    refused("an eleventh", x.copy(0, 0, 1), 3);
    for (int many = 1; many <= 3; many++) fine("mark()", x.mark(), many);
    refused("a fourth", x.mark(), 3);
  }

  private void isSo() {
    sentence("4 it is so.");
    begin();
    refused("it stands there", x.put(0, 0, 0), 4);
    fine("another one", x.put(0, 0, 1), 0);
    refused("now this one stands there", x.put(0, 0, 1), 4);
    refused("at the last PLACE", x.put(2, 59, 1), 4);
    fine("would() has no 4", x.would(0, 0, 1), 0);
  }

  private void thereIsNone() {
    sentence("5 there is none.");
    begin();
    refused("LETTER", x.letter(0, 6), 5);
    refused("byte", x.sign(0, 7), 5);
    refused("row", x.exact(0, 2, 0), 5);
    refused("LETTER of a row", x.exact(0, 0, 3), 5);
    refused("CHOICE", x.need(0, 2, 0), 5);
    refused("TRIPLE of a CHOICE", x.need(0, 0, 1), 5);
    refused("DOCUMENT of a LIST", x.list(28, 1), 5);
    refused("FIRST MATCH", x.match(2, 1, 0), 5);
    refused("PLACE", x.alive(0, 0, 6), 5);
    refused("TRIPLE of a PATTERN", x.rarest(1), 5);
    refused("PLACE to put", x.put(0, 6, 0), 5);
    refused("PLACE to let in", x.let(0, 7, 0), 5);
    refused("LETTERS to cut", x.cut(0, 5, 2), 5);
    refused("LETTERS to copy", x.copy(0, 5, 2), 5);
    refused("PLACE on paper", x.would(0, 6, 0), 5);
    refused("PLACE for the best", x.best(0, 6), 5);
    refused("MARK", x.back(), 5);
    x.undo();
    refused("ACT", x.undo(), 5);
  }

  private void noLetterOrMoreThan60() {
    sentence("6 it would have no LETTER, or more than 60.");
    loaded(docs("a", "ab", repeat("a", 59), repeat("a", 60)));
    refused("none of one", x.cut(0, 0, 1), 6);
    refused("none of two", x.cut(1, 0, 2), 6);
    refused("none of sixty", x.cut(3, 0, 60), 6);
    fine("one of two", x.cut(1, 0, 1), 1);
    fine("a 60th", x.let(2, 0, 0), 60);
    refused("a 61st", x.let(2, 0, 0), 6);
    refused("a 61st behind all", x.let(3, 60, 0), 6);
  }

  private void aFault() {
    sentence("9 a FAULT.");
    refused("load()", x.load(tell("5")), 9);
    refused("more()", x.more(tell("5")), 9);
    fine("without one", x.load(tell(" ")), 0);
    fine("without one", x.more(tell(" ")), 0);
  }

  private void allElse() {
    sentence("0 else.");
    begin();
    int[] got = {x.many(0), x.document(0, 0), x.letter(0, 0), x.pattern(0, 0), x.sign(0, 0), x.exact(0, 0, 0),
        x.need(0, 0, 0), x.list(28, 0), x.often(0, 28), x.gate(0, 0), x.match(0, 0, 0), x.alive(0, 0, 0), x.rarest(0),
        x.within(0, 0), x.would(0, 0, 1), x.best(0, 0)};
    int[] due = {3, 6, 0, 7, 'a', 0, 28, 0, 1, 3, 0, 1, 28, 1, 0, 0};
    for (int i = 0; i < due.length; i++) fine("question " + i, got[i], due[i]);
    x.drop(9);
    fine("put()", x.put(0, 0, 1), 0);
    x.drop(9);
    fine("let()", x.let(0, 0, 1), 7);
    x.drop(9);
    fine("cut()", x.cut(0, 0, 1), 6);
    x.drop(9);
    fine("copy()", x.copy(0, 0, 1), 3);
    x.drop(9);
    fine("drop()", x.drop(0), 3);
    x.drop(9);
    fine("forget()", x.forget(0), 2);
    x.drop(9);
    fine("undo()", x.undo(), 6);
    x.drop(9);
    fine("mark()", x.mark(), 1);
    x.drop(9);
    fine("back()", x.back(), 0);
    x.drop(9);
    fine("load()", x.load(0), 0);
    x.drop(9);
    fine("more()", x.more(0), 0);
  }

  /** All that can be seen of an object, but for the tape and STATUS. */
  private String seen() {
    StringBuilder all = new StringBuilder(allTexts()).append(' ').append(allSigns());
    for (int what = 0; what < 6; what++) all.append(' ').append(x.many(what));
    all.append(' ').append(x.fault(0)).append(' ').append(x.fault(1));
    return all.toString();
  }

  private void leaves(String call, ToIntFunction<PatternGate> made, int status) {
    begin();
    x.mark();
    x.put(0, 0, 25);
    x.load(tell("doc 5"));
    tell(docs("tape"));
    String before = seen();
    refused(call, made.applyAsInt(x), status);
    same("what there is behind " + call, seen(), before);
    due("the tape behind " + call, x.feed(0, 0, 0, 0, 0), 40);
    fine("what the tape has behind " + call, x.more(11), 1);
    same("it is the same", text(3), "tape");
    for (int left = 2; left >= 0; left--) fine("what can be undone behind " + call, x.undo(), left);
  }

  private void whatARefusedCallLeaves() {
    sentence("With another STATUS than 0 a call gives NONE, and changes nothing else");
    leaves("load(-1)", g -> g.load(-1), 1);
    leaves("load(21)", g -> g.load(21), 1);
    leaves("more(-1)", g -> g.more(-1), 1);
    leaves("more(21)", g -> g.more(21), 1);
    leaves("many(6)", g -> g.many(6), 1);
    leaves("document(0, 4)", g -> g.document(0, 4), 1);
    leaves("document(3, 0)", g -> g.document(3, 0), 2);
    leaves("letter(0, 6)", g -> g.letter(0, 6), 5);
    leaves("pattern(0, 8)", g -> g.pattern(0, 8), 1);
    leaves("sign(3, 0)", g -> g.sign(3, 0), 2);
    leaves("exact(2, 0, 0)", g -> g.exact(2, 0, 0), 5);
    leaves("need(1, 0, 0)", g -> g.need(1, 0, 0), 5);
    leaves("list(17576, 0)", g -> g.list(17576, 0), 1);
    leaves("often(3, 0)", g -> g.often(3, 0), 2);
    leaves("gate(3, 0)", g -> g.gate(3, 0), 2);
    leaves("match(2, 1, 0)", g -> g.match(2, 1, 0), 5);
    leaves("alive(0, 0, 6)", g -> g.alive(0, 0, 6), 5);
    leaves("rarest(1)", g -> g.rarest(1), 5);
    leaves("within(0, 3)", g -> g.within(0, 3), 2);
    leaves("put(0, 0, z)", g -> g.put(0, 0, 25), 4);
    leaves("put(0, 6, a)", g -> g.put(0, 6, 0), 5);
    leaves("put(0, 0, 26)", g -> g.put(0, 0, 26), 1);
    leaves("let(0, 7, a)", g -> g.let(0, 7, 0), 5);
    leaves("let(2, 0, a)", g -> g.let(2, 0, 0), 6);
    leaves("cut(1, 0, 3)", g -> g.cut(1, 0, 3), 6);
    leaves("cut(1, 0, 4)", g -> g.cut(1, 0, 4), 5);
    leaves("copy(1, 0, 4)", g -> g.copy(1, 0, 4), 5);
    leaves("copy(1, 0, 0)", g -> g.copy(1, 0, 0), 1);
    leaves("drop(3)", g -> g.drop(3), 2);
    leaves("forget(3)", g -> g.forget(3), 2);
    leaves("would(0, 6, 0)", g -> g.would(0, 6, 0), 5);
    leaves("best(0, 6)", g -> g.best(0, 6), 5);
    begin();
    for (int i = 0; i < 3; i++) x.mark();
    String before = seen();
    refused("mark()", x.mark(), 3);
    same("what there is behind mark()", seen(), before);
    x = new PatternGate();
    before = seen();
    refused("undo()", x.undo(), 5);
    refused("back()", x.back(), 5);
    same("what there is behind undo() and back()", seen(), before);
    loaded(docsOf(10));
    before = seen();
    refused("copy() with 3", x.copy(0, 0, 1), 3);
    same("what there is behind copy()", seen(), before);
  }

  private void whatAFaultLeaves() {
    sentence("(but load(), more() with 9 the tape, and what fault() tells).");
    begin();
    x.mark();
    for (int call = 0; call < 2; call++) {
      String before = allTexts() + allSigns() + x.many(4) + x.many(5);
      tell("doc \"new\"; pattern \"new\"; doc");
      refused(call == 0 ? "load(29)" : "more(29)", call == 0 ? x.load(29) : x.more(29), 9);
      due("its kind", x.fault(0), 2);
      due("its place", x.fault(1), 29);
      same("what there is", allTexts() + allSigns() + x.many(4) + x.many(5), before);
      refused("the tape is empty", call == 0 ? x.load(1) : x.more(1), 1);
      fine("but no byte can be told", x.more(0), 0);
      due("no FAULT then", x.fault(0), 0);
    }
  }

  private void callsWithoutStatus() {
    sentence("status(), feed(), fault() have none.");
    x.drop(0);
    due("feed()", x.feed(0, 0, 0, 0, 0), 20);
    due("status() behind feed()", x.status(), 2);
    for (int i = 0; i < 44; i++) x.feed(0, 0, 0, 0, 0);
    due("feed() beyond 900", x.feed(0, 0, 0, 0, 0), -1);
    due("status() behind it", x.status(), 2);
    due("fault(0)", x.fault(0), -1);
    due("status() behind fault(0)", x.status(), 2);
    due("fault(9)", x.fault(9), -1);
    due("status() behind fault(9)", x.status(), 2);
    due("status() behind status()", x.status(), 2);
    x.many(0);
    due("fault(9)", x.fault(9), -1);
    due("status() stays 0, too", x.status(), 0);
  }

  // ---- promises 1 to 6

  private void newObject() {
    sentence("No DOCUMENTS, PATTERNS, MARKS; nothing can be undone; an empty tape; STATUS 0.");
    due("STATUS 0", x.status(), 0);
    for (int what = 0; what < 6; what++) fine("many(" + what + ")", x.many(what), 0);
    refused("no DOCUMENT", x.document(0, 0), 2);
    refused("no PATTERN", x.pattern(0, 0), 2);
    refused("no MARK", x.back(), 5);
    refused("nothing can be undone", x.undo(), 5);
    refused("no byte on the tape", x.load(1), 1);
    refused("no LIST", x.list(0, 0), 5);
    due("the first 20 bytes", x.feed(0, 0, 0, 0, 0), 20);
    x = new PatternGate();
    fine("nothing told", x.load(0), 0);
    x = new PatternGate();
    fine("nothing told behind", x.more(0), 0);
    begin();
    x.mark();
    x = new PatternGate();
    for (int what = 0; what < 6; what++) fine("many(" + what + ") of another one", x.many(what), 0);
  }

  private void status() {
    sentence("STATUS of the latest call that has one.");
    due("ahead of any", x.status(), 0);
    x.load(1);
    due("1", x.status(), 1);
    x.drop(0);
    due("2", x.status(), 2);
    x.undo();
    due("5", x.status(), 5);
    loaded(docs("a", repeat("b", 60)));
    due("0", x.status(), 0);
    x.put(0, 0, 0);
    due("4", x.status(), 4);
    x.let(1, 0, 0);
    due("6", x.status(), 6);
    x.load(tell("5"));
    due("9", x.status(), 9);
    for (int i = 0; i < 4; i++) x.mark();
    due("3", x.status(), 3);
    due("3 again", x.status(), 3);
    x.many(0);
    due("0 again", x.status(), 0);
  }

  private void feed() {
    sentence("Twenty bytes come behind those on the tape, the highest of each int first: how many it has;");
    // doc "abcdefghijklm";  with blanks, in five ints: 20 bytes, all unlike in their places
    due("first", x.feed(0x646f6322, 0x61626364, 0x65666768, 0x696a6b6c, 0x6d6e223b), 20);
    due("behind", x.feed(0x2020646f, 0x63227879, 0x7a223b20, 0x0a0a0a0a, 0x20202020), 40);
    fine("all of them", x.load(40), 2);
    same("in their order", allTexts(), "abcdefghijklmn,xyz");
    due("from 0 on again", x.feed(MIN, -1, MAX, 0, 1), 20);
    refused("the highest byte is 128", x.load(1), 9);
    due("its kind", x.fault(0), 1);
    due("its place", x.fault(1), 0);
    x.feed(0x20202020, 0x20202080, 0, 0, 0);
    refused("the lowest byte of the second int", x.load(8), 9);
    due("its place", x.fault(1), 7);
    x.feed(0x20202020, 0x20202020, 0x20202020, 0x20202020, 0x2020ff20);
    refused("the 19th byte", x.load(20), 9);
    due("its place", x.fault(1), 18);
    x.feed(-1, 0, 0, 0, 0);
    refused("a byte of 255", x.load(1), 9);
    due("its kind", x.fault(0), 1);
  }

  private void feedTooMany() {
    sentence("NONE if there would be more than 900.");
    for (int i = 1; i < 45; i++) due("feed", x.feed(0x20202020, 0x20202020, 0x20202020, 0x20202020, 0x20202020), 20 * i);
    due("the 45th", x.feed(0x20202020, 0x20202020, 0x20646f63, 0x20227a22, 0x3b202020), 900);
    due("the 46th", x.feed(0, 0, 0, 0, 0), -1);
    due("the 47th", x.feed(0, 0, 0, 0, 0), -1);
    refused("there are not more", x.load(901), 1);
    fine("what was told stays", x.load(900), 1);
    same("to the end", text(0), "z");
    due("then it is empty", x.feed(0, 0, 0, 0, 0), 20);
  }

  private void loadFirstBytes() {
    sentence("The first n bytes of the tape (which is empty then) are the BOOK; what there was is gone: how many DOCUMENTS");
    begin();
    tell("doc \"a\";doc \"b\";pattern \"c\";");
    fine("all of the first LINE", x.load(8), 1);
    same("what there was is gone", allTexts() + " " + allSigns(), "a ");
    refused("the tape is empty", x.load(1), 1);
    // what stands behind the n bytes would do, but isn't told
    for (String[] cut : new String[][] {{"doc", "doc", "2"}, {"doc \"a", "b\";", "1"}, {"doc \"a\"", ";", "2"},
        {"pattern \"a", "\";", "1"}, {"pattern \"[a", "]\";", "1"}, {"pattern \"[a", "a]\";", "1"},
        {"doc \"" + repeat("a", 60), "a", "1"}, {"pattern \"" + repeat("a", 24), "a", "1"}, {"pattern \"a", "*\";", "1"}, {"do", "c \"a\";", "0"},
        {"pattern \"(a", ")\";", "1"}, {"doc", "\"a\";", "2"}}) {
      tell(cut[0] + cut[1]);
      refused(cut[0], x.load(cut[0].length()), 9);
      boolean word = cut[2].equals("0");
      due("kind of " + cut[0], x.fault(0), word ? 2 : Integer.parseInt(cut[2]));
      due("place of " + cut[0], x.fault(1), word ? 0 : cut[0].length());
    }
    tell("doc \"a\";5");
    fine("nor is what would not do", x.load(8), 1);
    tell("junk");
    fine("no byte", x.load(0), 0);
    same("all is gone", allTexts() + " " + allSigns(), " ");
    refused("the tape is empty", x.load(1), 1);
    fine("PATTERNS alone", loaded(patterns("a")), 0);
    fine("ten", loaded(docsOf(10)), 10);
    due("no PATTERN is left", x.many(1), 0);
    // an earlier, longer BOOK still stands in the tape's room
    tell("doc \"abcdefghijklmnopqrst\";doc \"u\";");
    x.load(0);
    tell("doc \"abcd\";");
    refused("n bytes that are not on the tape now", x.load(21), 1);
    fine("those that are", x.load(11), 1);
  }

  private void loadRefused() {
    sentence("(1: the tape has not so many, too; 9: all stays as it was).");
    begin();
    String before = seen();
    for (int n : BELOW) refused("load(" + n + ")", x.load(n), 1);
    refused("load(1) of an empty tape", x.load(1), 1);
    tell(docs("a"));
    refused("load(21) of 20 bytes", x.load(21), 1);
    refused("load(max)", x.load(MAX), 1);
    same("nothing changed", seen(), before);
    fine("the tape stayed", x.load(8), 1);
    x.undo();
    tell("doc \"a\"; pattern \"b\"; 5");
    refused("a FAULT at the end", x.load(23), 9);
    same("all stays", allTexts() + " " + allSigns(), "abcdef,xyz," + repeat("ab", 30) + " abc|xyz,b?,a.c");
    refused("the tape not", x.load(1), 1);
    tell(repeat(" ", 20));
    fine("load(20) of 20 bytes", x.load(20), 0);
  }

  private void more() {
    sentence("So, but what there was stays, what is told comes behind it: how many DOCUMENTS and PATTERNS came, together");
    fine("behind nothing", x.more(tell(docs("a") + patterns("p"))), 2);
    fine("DOCUMENTS alone", x.more(tell(docs("b", "c"))), 2);
    fine("PATTERNS alone", x.more(tell(patterns("q"))), 1);
    fine("nothing", x.more(0), 0);
    fine("blanks", x.more(tell(" \n ")), 0);
    same("what there was stays", allTexts() + " " + allSigns(), "a,b,c p,q");
    tell(docs("d", "e"));
    fine("the first n bytes", x.more(8), 1);
    refused("the tape is empty then", x.more(1), 1);
    fine("all that there can be", x.more(tell(docsOf(6) + patternsOf(6))), 12);
    fine("none more", x.more(0), 0);
    same("in order", allTexts() + " " + allSigns(), "a,b,c,d,a,b,c,d,e,f p,q,a,b,c,d,e,f");
  }

  private void moreRefused() {
    sentence("how many DOCUMENTS and PATTERNS came, together (1; 9).");
    begin();
    String before = seen();
    for (int n : BELOW) refused("more(" + n + ")", x.more(n), 1);
    refused("more(1) of an empty tape", x.more(1), 1);
    tell(docs("a"));
    refused("more(21) of 20 bytes", x.more(21), 1);
    refused("more(max)", x.more(MAX), 1);
    same("nothing changed", seen(), before);
    fine("the tape stayed", x.more(8), 1);
    before = allTexts() + allSigns();
    refused("a FAULT behind good LINES", x.more(tell(docs("a", "b") + patterns("a") + "doc")), 9);
    refused("an eleventh behind good LINES", x.more(tell(docsOf(7))), 9);
    due("its kind", x.fault(0), 3);
    due("its place", x.fault(1), 48);
    refused("a ninth behind good LINES", x.more(tell(patternsOf(6))), 9);
    due("its place", x.fault(1), 60);
    same("none of them came", allTexts() + allSigns(), before);
    due("no ACT", x.many(4), 2);
  }

  private void fault() {
    sentence("Of the latest load(), more() with STATUS 0 or 9, what 0: the FAULT (0 without one), 1: its place (NONE without).");
    faulty("word", 2, 0);
    fine("without one", x.load(0), 0);
    due("fault(0)", x.fault(0), 0);
    due("fault(1)", x.fault(1), -1);
    faulty(" 5", 1, 1);
    x.load(1);
    due("one with STATUS 1 does not count", x.fault(0), 1);
    due("nor for its place", x.fault(1), 1);
    x.more(-1);
    due("nor more()", x.fault(0), 1);
    due("nor more() for its place", x.fault(1), 1);
    x.more(tell(docs("a")));
    due("more() without one", x.fault(0), 0);
    due("more() without one has no place", x.fault(1), -1);
    x.more(1);
    due("that stays, too", x.fault(0), 0);
    x.more(tell(docs(repeat("a", 61))));
    due("more() with one", x.fault(0), 4);
    due("its place", x.fault(1), 65);
    x.mark();
    x.undo();
    x.drop(0);
    x.many(0);
    due("other calls leave it", x.fault(0), 4);
    due("and its place", x.fault(1), 65);
  }

  private void faultOfOthers() {
    sentence("NONE for others, and ahead of any.");
    due("fault(0) ahead of any", x.fault(0), -1);
    due("fault(1) ahead of any", x.fault(1), -1);
    x.load(1);
    x.more(1);
    due("fault(0) ahead of any with STATUS 0 or 9", x.fault(0), -1);
    faulty("5", 1, 0);
    for (int what : new int[] {2, 3, -1, MIN, MAX}) due("fault(" + what + ")", x.fault(what), -1);
    x.load(0);
    for (int what : new int[] {2, 3, -1, MIN, MAX}) due("fault(" + what + ")", x.fault(what), -1);
  }

  // ---- promises 7 to 15

  private void many() {
    sentence("DOCUMENTS (what 0), PATTERNS (1), LETTERS of all DOCUMENTS (2), TRIPLES that have a LIST (3), "
        + "ACTS that can be undone (4), MARKS (5) (1).");
    loaded(docs("ab"));
    fine("no TRIPLE", x.many(3), 0);
    x.more(tell(docs("abc", "abc", "xabcx", repeat("z", 60))));
    fine("LETTERS", x.many(2), 2 + 3 + 3 + 5 + 60);
    fine("each TRIPLE once: abc xab bcx zzz", x.many(3), 4);
    x.drop(4);
    fine("a LIST that goes", x.many(3), 3);
    x.drop(1);
    fine("one that stays", x.many(3), 3);
    int[] due = {3, 0, 10, 3, 4, 0};
    for (int what = 0; what < 6; what++) fine("many(" + what + ")", x.many(what), due[what]);
    for (int what : BELOW) refused("many(" + what + ")", x.many(what), 1);
    refused("many(6)", x.many(6), 1);
    refused("many(max)", x.many(MAX), 1);
    x.load(0);
    for (int what = 0; what < 4; what++) fine("many(" + what + ") of nothing", x.many(what), 0);
    String[] full = new String[10];
    for (int i = 0; i < 10; i++) full[i] = repeat(SMALL, 3).substring(i, i + 60);
    x.load(0);
    for (int i = 0; i < 10; i++) x.more(tell(docs(full[i])));
    fine("all LETTERS that there can be", x.many(2), 600);
    fine("abc to zab", x.many(3), 26);
  }

  private void document() {
    sentence("Of a DOCUMENT, what 0: LETTERS, 1: unlike TRIPLES, 2: PATTERNS that it FITS (bits), "
        + "3: PATTERNS of which it is a CANDIDATE (bits) (1; 2).");
    begin();
    for (int what : BELOW) refused("document(0, " + what + ")", x.document(0, what), 1);
    refused("document(0, 4)", x.document(0, 4), 1);
    refused("document(0, max)", x.document(0, MAX), 1);
    for (int document : BELOW) refused("document(" + document + ", 0)", x.document(document, 0), 2);
    refused("document(3, 0)", x.document(3, 0), 2);
    refused("document(max, 3)", x.document(MAX, 3), 2);
    refused("1 is ahead of 2", x.document(3, 4), 1);
    refused("1 is ahead of 2", x.document(-1, -1), 1);
    fine("what 0", x.document(2, 0), 60);
    fine("what 1: aba bab", x.document(2, 1), 2);
    fine("what 2", x.document(0, 2), 1 + 2 + 4);
    fine("what 3", x.document(2, 3), 2 + 4);
    x = new PatternGate();
    loaded(docs("a", "ab", "abc", "bbbb"));
    fine("one LETTER", x.document(0, 0), 1);
    fine("one LETTER has no TRIPLE", x.document(0, 1), 0);
    fine("two LETTERS have none", x.document(1, 1), 0);
    fine("three have one", x.document(2, 1), 1);
    fine("unlike ones count", x.document(3, 1), 1);
    fine("no PATTERNS", x.document(2, 2), 0);
    fine("no PATTERNS", x.document(2, 3), 0);
    x.more(tell(patterns("x", "abc", "x", "x*", "x", "abcd", "x", "c")));
    fine("the eighth PATTERN", x.document(2, 2), 2 + 8 + 128);
    fine("CANDIDATE of the eighth", x.document(2, 3), 255 - 32);
    fine("CANDIDATE of fewer", x.document(1, 3), 255 - 32 - 2);
  }

  private void letter() {
    sentence("The LETTER at a PLACE (1: below 0; 2; 5).");
    begin();
    fine("the first", x.letter(0, 0), 0);
    fine("the last", x.letter(0, 5), 5);
    fine("the last of 60", x.letter(2, 59), 1);
    for (int place : BELOW) refused("letter(0, " + place + ")", x.letter(0, place), 1);
    for (int document : BELOW) refused("letter(" + document + ", 0)", x.letter(document, 0), 2);
    refused("letter(3, 0)", x.letter(3, 0), 2);
    refused("letter(max, 0)", x.letter(MAX, 0), 2);
    refused("letter(0, 6)", x.letter(0, 6), 5);
    refused("letter(2, 60)", x.letter(2, 60), 5);
    refused("letter(0, max)", x.letter(0, MAX), 5);
    refused("1 is ahead of 2", x.letter(3, -1), 1);
    refused("2 is ahead of 5", x.letter(3, MAX), 2);
  }

  private void pattern() {
    sentence("Of a PATTERN, what 0: bytes, 1: SPOTS, 2: CHOICES of its NEED, 3: rows of EXACT (NONE: none), "
        + "4: 1 if it can be the empty row, else 0, 5: the fewest LETTERS it can be, "
        + "6: TRIPLES of all CHOICES (unlike), 7: DEPTH (1; 2);");
    begin();
    for (int what : BELOW) refused("pattern(0, " + what + ")", x.pattern(0, what), 1);
    refused("pattern(0, 8)", x.pattern(0, 8), 1);
    refused("pattern(0, max)", x.pattern(0, MAX), 1);
    for (int pattern : BELOW) refused("pattern(" + pattern + ", 0)", x.pattern(pattern, 0), 2);
    refused("pattern(3, 0)", x.pattern(3, 0), 2);
    refused("pattern(max, 7)", x.pattern(MAX, 7), 2);
    refused("1 is ahead of 2", x.pattern(3, 8), 1);
    int[] due = {7, 6, 2, 2, 0, 3, 2, 3};
    for (int what = 0; what < 8; what++) fine("pattern(0, " + what + ")", x.pattern(0, what), due[what]);
    patternIs("a", 1, 0, 1, 3);
    patternIs("a?", 1, 1, 0, 4);
    patternIs(repeat("a", 24), 24, 0, 24, 3);
    patternIs(repeat("a?", 24), 24, 1, 0, 4);
    patternIs(repeat("a?", 23) + "a", 24, 0, 1, 4);
    patternIs("abc|d|ef", 6, 0, 1, 3);
    patternIs("abc|d*|ef", 6, 1, 0, 4);
    patternIs("a?|b", 2, 1, 0, 4);
    patternIs("b|a?", 2, 1, 0, 4);
    patternIs("a?|b|c", 3, 1, 0, 4);
    patternIs("(a?b?)+", 2, 1, 0, 7);
    patternIs("(a?b)+", 2, 0, 1, 7);
    patternIs("ab?c?", 3, 0, 1, 4);
    patternIs("a?b?c", 3, 0, 1, 4);
    patternIs("(ab|c)(de|f+)g*", 7, 0, 2, 6);
    patternIs(repeat("[" + SMALL + "]?", 20), 20, 1, 0, 4);
    x = new PatternGate();
    loaded(patterns("abc|bcd|cab", "abcx|abcy", "ab"));
    fine("TRIPLES of three CHOICES", x.pattern(0, 6), 3);
    fine("unlike ones: abc bcx bcy", x.pattern(1, 6), 3);
    fine("none", x.pattern(2, 6), 0);
  }

  private void patternWithoutExact() {
    sentence("STATUS tells NONE from -1.");
    loaded(patterns("a*", "a"));
    due("no EXACT", x.pattern(0, 3), -1);
    due("is an answer", x.status(), 0);
    due("no PATTERN", x.pattern(2, 3), -1);
    due("is none", x.status(), 2);
    due("no such number", x.pattern(0, 8), -1);
    due("is none either", x.status(), 1);
    fine("one row", x.pattern(1, 3), 1);
  }

  private void sign() {
    sentence("Byte i of a PATTERN (1: below 0; 2; 5).");
    begin();
    fine("the first", x.sign(0, 0), 'a');
    fine("the last", x.sign(0, 6), 'z');
    fine("the last of another one", x.sign(1, 1), '?');
    for (int i : BELOW) refused("sign(0, " + i + ")", x.sign(0, i), 1);
    for (int pattern : BELOW) refused("sign(" + pattern + ", 0)", x.sign(pattern, 0), 2);
    refused("sign(3, 0)", x.sign(3, 0), 2);
    refused("sign(max, 0)", x.sign(MAX, 0), 2);
    refused("sign(0, 7)", x.sign(0, 7), 5);
    refused("sign(1, 2)", x.sign(1, 2), 5);
    refused("sign(0, max)", x.sign(0, MAX), 5);
    refused("1 is ahead of 2", x.sign(3, -1), 1);
    refused("2 is ahead of 5", x.sign(3, MAX), 2);
    x = new PatternGate();
    String longest = repeat("[" + SMALL + "]*", 24);
    loaded(patterns(longest));
    fine("the last byte of many", x.sign(0, longest.length() - 1), '*');
    refused("none behind it", x.sign(0, longest.length()), 5);
  }

  private void exact() {
    sentence("LETTER k of row i of EXACT of a PATTERN (1: below 0; 2; 5: no such row, or it ends).");
    begin();
    fine("the first", x.exact(0, 0, 0), 0);
    fine("the last", x.exact(0, 1, 2), 25);
    refused("it ends", x.exact(0, 0, 3), 5);
    refused("it ends", x.exact(0, 1, 3), 5);
    refused("no such row", x.exact(0, 2, 0), 5);
    refused("an empty row ends at once", x.exact(1, 0, 0), 5);
    refused("no EXACT, no row", x.exact(2, 0, 0), 5);
    for (int i : BELOW) {
      refused("exact(0, " + i + ", 0)", x.exact(0, i, 0), 1);
      refused("exact(0, 0, " + i + ")", x.exact(0, 0, i), 1);
      refused("exact(" + i + ", 0, 0)", x.exact(i, 0, 0), 2);
    }
    refused("exact(3, 0, 0)", x.exact(3, 0, 0), 2);
    refused("exact(max, 0, 0)", x.exact(MAX, 0, 0), 2);
    refused("exact(0, max, 0)", x.exact(0, MAX, 0), 5);
    refused("exact(0, 0, max)", x.exact(0, 0, MAX), 5);
    refused("1 is ahead of 2", x.exact(3, -1, 0), 1);
    refused("1 is ahead of 2 and 5", x.exact(3, 9, -1), 1);
    refused("1 is ahead of 5", x.exact(0, 9, -1), 1);
    refused("2 is ahead of 5", x.exact(3, 9, 9), 2);
    x = new PatternGate();
    loaded(patterns("abcdefgz|a|b|c|d|e"));
    fine("the eighth LETTER", x.exact(0, 1, 7), 25);
    refused("no ninth", x.exact(0, 1, 8), 5);
    fine("the sixth row", x.exact(0, 5, 0), 4);
    refused("no seventh", x.exact(0, 6, 0), 5);
  }

  private void need() {
    sentence("TRIPLE k of CHOICE i of the NEED of a PATTERN (1: below 0; 2; 5).");
    begin();
    fine("the first", x.need(0, 0, 0), triple("abc"));
    fine("the last", x.need(0, 1, 0), triple("xyz"));
    refused("it has one", x.need(0, 0, 1), 5);
    refused("no such CHOICE", x.need(0, 2, 0), 5);
    refused("an empty CHOICE", x.need(1, 0, 0), 5);
    for (int i : BELOW) {
      refused("need(0, " + i + ", 0)", x.need(0, i, 0), 1);
      refused("need(0, 0, " + i + ")", x.need(0, 0, i), 1);
      refused("need(" + i + ", 0, 0)", x.need(i, 0, 0), 2);
    }
    refused("need(3, 0, 0)", x.need(3, 0, 0), 2);
    refused("need(max, 0, 0)", x.need(MAX, 0, 0), 2);
    refused("need(0, max, 0)", x.need(0, MAX, 0), 5);
    refused("need(0, 0, max)", x.need(0, 0, MAX), 5);
    refused("need(0, max, max)", x.need(0, MAX, MAX), 5);
    refused("1 is ahead of 2", x.need(3, -1, 0), 1);
    refused("1 is ahead of 2 and 5", x.need(3, 9, -1), 1);
    refused("2 is ahead of 5", x.need(3, 9, 9), 2);
    x = new PatternGate();
    loaded(patterns("aaa", "zzz", SMALL.substring(0, 24)));
    fine("the least TRIPLE", x.need(0, 0, 0), 0);
    fine("the most", x.need(1, 0, 0), 17575);
    fine("the 22nd of 24 SPOTS", x.need(2, 0, 21), triple("vwx"));
    refused("no 23rd", x.need(2, 0, 22), 5);
  }

  private void list() {
    sentence("The i-th DOCUMENT of the LIST of a TRIPLE (1: not 0 to 17,575, i below 0; 5).");
    loaded(docs("aaa", "zzz", "aaaa", "q", "zzzz", "q", "q", "q", "q", "aaa"));
    fine("the least TRIPLE", x.list(0, 0), 0);
    fine("the second", x.list(0, 1), 2);
    fine("DOCUMENT 9", x.list(0, 2), 9);
    refused("no fourth", x.list(0, 3), 5);
    fine("the last TRIPLE", x.list(17575, 1), 4);
    refused("no third", x.list(17575, 2), 5);
    refused("no LIST", x.list(1, 0), 5);
    refused("no LIST", x.list(17574, 0), 5);
    for (int i : BELOW) {
      refused("list(" + i + ", 0)", x.list(i, 0), 1);
      refused("list(0, " + i + ")", x.list(0, i), 1);
    }
    refused("list(17576, 0)", x.list(17576, 0), 1);
    refused("list(max, 0)", x.list(MAX, 0), 1);
    refused("list(0, max)", x.list(0, MAX), 5);
    refused("1 is ahead of 5", x.list(1, -1), 1);
    x.put(0, 1, 1);
    fine("kept through put()", x.list(0, 0), 2);
    fine("the new one", x.list(26, 0), 0);
    x.cut(2, 0, 2);
    fine("kept through cut()", x.list(0, 0), 9);
    x.let(3, 1, 0);
    x.let(3, 2, 0);
    x.let(3, 3, 0);
    fine("kept through let()", x.list(0, 0), 3);
    x.drop(0);
    fine("kept through drop()", x.list(0, 0), 2);
    fine("kept through drop()", x.list(0, 1), 8);
    x.copy(2, 1, 3);
    fine("kept through copy()", x.list(0, 2), 9);
    x.undo();
    refused("kept through undo()", x.list(0, 2), 5);
    x.load(0);
    refused("kept through load()", x.list(0, 0), 5);
  }

  private void often() {
    sentence("How often a TRIPLE stands in a DOCUMENT (1: not 0 to 17,575; 2).");
    loaded(docs("aaaa", "zzz", "ab", repeat("a", 60), "abcabc"));
    fine("over itself", x.often(0, 0), 2);
    fine("the last TRIPLE", x.often(1, 17575), 1);
    fine("not at all", x.often(1, 0), 0);
    fine("in two LETTERS", x.often(2, 1), 0);
    fine("in sixty", x.often(3, 0), 58);
    fine("at both ends", x.often(4, 28), 2);
    for (int i : BELOW) {
      refused("often(0, " + i + ")", x.often(0, i), 1);
      refused("often(" + i + ", 0)", x.often(i, 0), 2);
    }
    refused("often(0, 17576)", x.often(0, 17576), 1);
    refused("often(0, max)", x.often(0, MAX), 1);
    refused("often(5, 0)", x.often(5, 0), 2);
    refused("often(max, 0)", x.often(MAX, 0), 2);
    refused("1 is ahead of 2", x.often(5, 17576), 1);
    refused("1 is ahead of 2", x.often(-1, -1), 1);
  }

  // ---- promises 16 to 20

  private void gate() {
    sentence("Of a PATTERN, what 0: CANDIDATES (bits), 1: LEAPS of its GATE, 2: DOCUMENTS that FIT (bits), "
        + "3: CANDIDATES that don't (1; 2).");
    begin();
    int[] due = {3, 4, 3, 0};
    for (int what = 0; what < 4; what++) fine("gate(0, " + what + ")", x.gate(0, what), due[what]);
    fine("two CANDIDATES that don't fit: how many", x.gate(2, 3), 2);
    for (int i : BELOW) {
      refused("gate(0, " + i + ")", x.gate(0, i), 1);
      refused("gate(" + i + ", 0)", x.gate(i, 0), 2);
    }
    refused("gate(0, 4)", x.gate(0, 4), 1);
    refused("gate(0, max)", x.gate(0, MAX), 1);
    refused("gate(3, 0)", x.gate(3, 0), 2);
    refused("gate(max, 3)", x.gate(MAX, 3), 2);
    refused("1 is ahead of 2", x.gate(3, 4), 1);
    gateIs(docsOf(10) + patterns("j"), 1023, 0, 512, 9);
    gateIs(docsOf(10) + patterns("z"), 1023, 0, 0, 10);
    gateIs(docsOf(10) + patterns("z?"), 1023, 0, 1023, 0);
    gateIs(patterns("z"), 0, 0, 0, 0);
  }

  private void match() {
    sentence("Of the FIRST MATCH of a PATTERN in a DOCUMENT, what 0: its PLACE, 1: how many LETTERS; "
        + "2: how many MATCHES (1; 2; 5 of 0, 1).");
    begin();
    fine("its PLACE", x.match(0, 1, 0), 0);
    fine("its LETTERS", x.match(0, 1, 1), 3);
    fine("MATCHES", x.match(0, 1, 2), 1);
    refused("without one, 0", x.match(0, 2, 0), 5);
    refused("without one, 1", x.match(0, 2, 1), 5);
    fine("without one, 2", x.match(0, 2, 2), 0);
    fine("an empty one has a PLACE", x.match(1, 1, 0), 0);
    fine("and no LETTER", x.match(1, 1, 1), 0);
    for (int i : BELOW) {
      refused("match(0, 0, " + i + ")", x.match(0, 0, i), 1);
      refused("match(" + i + ", 0, 0)", x.match(i, 0, 0), 2);
      refused("match(0, " + i + ", 0)", x.match(0, i, 0), 2);
    }
    refused("match(0, 0, 3)", x.match(0, 0, 3), 1);
    refused("match(0, 0, max)", x.match(0, 0, MAX), 1);
    refused("match(3, 0, 0)", x.match(3, 0, 0), 2);
    refused("match(0, 3, 2)", x.match(0, 3, 2), 2);
    refused("match(max, max, 0)", x.match(MAX, MAX, 0), 2);
    refused("1 is ahead of 2", x.match(3, 3, 3), 1);
  }

  private void alive() {
    sentence("ALIVE behind a PLACE, as bits of SPOTS (1: below 0; 2; 5: no such PLACE).");
    begin();
    fine("the first PLACE", x.alive(0, 0, 0), 1);
    fine("the last", x.alive(0, 1, 2), 32);
    fine("the last of 60", x.alive(0, 2, 59), 2);
    fine("none", x.alive(0, 0, 5), 0);
    for (int i : BELOW) {
      refused("alive(0, 0, " + i + ")", x.alive(0, 0, i), 1);
      refused("alive(" + i + ", 0, 0)", x.alive(i, 0, 0), 2);
      refused("alive(0, " + i + ", 0)", x.alive(0, i, 0), 2);
    }
    refused("alive(3, 0, 0)", x.alive(3, 0, 0), 2);
    refused("alive(0, 3, 0)", x.alive(0, 3, 0), 2);
    refused("alive(0, 0, 6)", x.alive(0, 0, 6), 5);
    refused("alive(0, 2, 60)", x.alive(0, 2, 60), 5);
    refused("alive(0, 0, max)", x.alive(0, 0, MAX), 5);
    refused("1 is ahead of 2", x.alive(3, 3, -1), 1);
    refused("2 is ahead of 5", x.alive(3, 0, 6), 2);
    refused("2 is ahead of 5", x.alive(0, 3, MAX), 2);
  }

  private void rarest() {
    sentence("The TRIPLE of all CHOICES of a PATTERN whose LIST is shortest (none, too), of several the least (2; 5: no TRIPLES).");
    loaded(docs("abcd", "abce", "abcd", "xyz", "xyz", "xyz") + patterns("abcd", "abc|xyz", "abc|pqr", "b?", "xyz|abcd", "zzz|yyy"));
    fine("bcd in 2, abc in 3", x.rarest(0), triple("bcd"));
    fine("of several the least", x.rarest(1), triple("abc"));
    fine("in none", x.rarest(2), triple("pqr"));
    refused("no TRIPLES", x.rarest(3), 5);
    fine("of all CHOICES", x.rarest(4), triple("bcd"));
    fine("of several in none the least", x.rarest(5), triple("yyy"));
    for (int i : BELOW) refused("rarest(" + i + ")", x.rarest(i), 2);
    refused("rarest(6)", x.rarest(6), 2);
    refused("rarest(max)", x.rarest(MAX), 2);
    x = new PatternGate();
    String[] ten = new String[10];
    for (int i = 0; i < 10; i++) ten[i] = "zzzaaa";
    loaded(docs(ten) + patterns("zzz", "zzz|aaa"));
    fine("in all ten", x.rarest(0), 17575);
    fine("the least TRIPLE", x.rarest(1), 0);
    x.load(tell(patterns("zzz|aaa")));
    fine("without DOCUMENTS", x.rarest(0), 0);
  }

  private void within() {
    sentence("1 if each CHOICE of a PATTERN has all TRIPLES of some CHOICE of another one, else 0 (2).");
    loaded(patterns("abcd", "abc", "b?", "abcd|xyz", "abc|xyz", "wxyz|abcd", "abc|pqr|xyz", "abce"));
    fine("more within fewer", x.within(0, 1), 1);
    fine("fewer not within more", x.within(1, 0), 0);
    fine("within itself", x.within(0, 0), 1);
    fine("all within the empty CHOICE", x.within(3, 2), 1);
    fine("the empty CHOICE within none", x.within(2, 1), 0);
    fine("the empty CHOICE within itself", x.within(2, 2), 1);
    fine("each CHOICE", x.within(3, 1), 0);
    fine("some CHOICE", x.within(0, 4), 1);
    fine("each some", x.within(5, 4), 1);
    fine("not each", x.within(4, 5), 0);
    fine("the last one not", x.within(6, 4), 0);
    fine("some of the last", x.within(4, 6), 1);
    fine("one TRIPLE of two alike", x.within(0, 7), 0);
    for (int i : BELOW) {
      refused("within(" + i + ", 0)", x.within(i, 0), 2);
      refused("within(0, " + i + ")", x.within(0, i), 2);
    }
    refused("within(8, 0)", x.within(8, 0), 2);
    refused("within(0, 8)", x.within(0, 8), 2);
    refused("within(max, max)", x.within(MAX, MAX), 2);
  }

  // ---- promises 21 to 29

  private void put() {
    sentence("Another LETTER stands at a PLACE: the one that stood there (1: not 0 to 25, PLACE below 0; 2; 5; "
        + "4: it stands there: behind 5).");
    begin();
    fine("the first PLACE", x.put(0, 0, 25), 0);
    fine("the last PLACE", x.put(0, 5, 0), 5);
    fine("the last of 60", x.put(2, 59, 2), 1);
    same("they stand there", text(0), "zbcdea");
    fine("and in the 60th", x.letter(2, 59), 2);
    refused("it stands there", x.put(0, 0, 25), 4);
    fine("a to b and back", x.put(0, 0, 0), 25);
    for (int i : BELOW) {
      refused("put(0, 0, " + i + ")", x.put(0, 0, i), 1);
      refused("put(0, " + i + ", 0)", x.put(0, i, 0), 1);
      refused("put(" + i + ", 0, 0)", x.put(i, 0, 0), 2);
    }
    refused("put(0, 0, 26)", x.put(0, 0, 26), 1);
    refused("put(0, 0, max)", x.put(0, 0, MAX), 1);
    refused("put(3, 0, 0)", x.put(3, 0, 0), 2);
    refused("put(max, 0, 0)", x.put(MAX, 0, 0), 2);
    refused("put(0, 6, 0)", x.put(0, 6, 0), 5);
    refused("put(2, 60, 0)", x.put(2, 60, 0), 5);
    refused("put(0, max, 0)", x.put(0, MAX, 0), 5);
    refused("1 is ahead of 2", x.put(3, 0, 26), 1);
    refused("1 is ahead of 5", x.put(0, 6, 26), 1);
    refused("2 is ahead of 5", x.put(3, 6, 0), 2);
    same("nothing changed", text(0), "abcdea");
    due("as many ACTS", x.many(4), 5);
  }

  private void let() {
    sentence("A LETTER is let in ahead of a PLACE (behind all: as many as there are): how many there are (1; 2; 5; 6: behind 5).");
    loaded(docs("b", repeat("y", 59), repeat("z", 60)));
    fine("ahead of the first", x.let(0, 0, 0), 2);
    fine("behind all", x.let(0, 2, 25), 3);
    fine("in the middle", x.let(0, 2, 12), 4);
    same("there they are", text(0), "abmz");
    fine("a 60th", x.let(1, 59, 25), 60);
    fine("it is the last", x.letter(1, 59), 25);
    refused("a 61st", x.let(1, 60, 25), 6);
    refused("a 61st ahead", x.let(2, 0, 0), 6);
    refused("behind all and one more", x.let(0, 5, 0), 5);
    refused("5 is ahead of 6", x.let(2, 61, 0), 5);
    for (int i : BELOW) {
      refused("let(0, 0, " + i + ")", x.let(0, 0, i), 1);
      refused("let(0, " + i + ", 0)", x.let(0, i, 0), 1);
      refused("let(" + i + ", 0, 0)", x.let(i, 0, 0), 2);
    }
    refused("let(0, 0, 26)", x.let(0, 0, 26), 1);
    refused("let(0, 0, max)", x.let(0, 0, MAX), 1);
    refused("let(3, 0, 0)", x.let(3, 0, 0), 2);
    refused("let(0, max, 0)", x.let(0, MAX, 0), 5);
    refused("1 is ahead of 2", x.let(3, 0, 26), 1);
    refused("1 is ahead of 6", x.let(2, 0, 26), 1);
    refused("2 is ahead of 5", x.let(3, MAX, 0), 2);
    due("LETTERS of all", x.many(2), 124);
    due("ACTS", x.many(4), 5);
  }

  private void cut() {
    sentence("So many LETTERS (1 and more) from a PLACE on are taken out: how many are left (1; 2; 5: there are not so many; "
        + "6: none would be left).");
    begin();
    fine("one from the begin", x.cut(0, 0, 1), 5);
    fine("one at the end", x.cut(0, 4, 1), 4);
    fine("two in the middle", x.cut(0, 1, 2), 2);
    same("what is left", text(0), "be");
    fine("all but one", x.cut(2, 1, 59), 1);
    same("what is left", text(2), "a");
    refused("none would be left of one", x.cut(2, 0, 1), 6);
    refused("none would be left", x.cut(1, 0, 3), 6);
    refused("not so many", x.cut(1, 0, 4), 5);
    refused("not so many from there on", x.cut(1, 1, 3), 5);
    refused("no LETTER from there on", x.cut(1, 3, 1), 5);
    for (int i : BELOW) {
      refused("cut(1, 0, " + i + ")", x.cut(1, 0, i), 1);
      refused("cut(1, " + i + ", 1)", x.cut(1, i, 1), 1);
      refused("cut(" + i + ", 0, 1)", x.cut(i, 0, 1), 2);
    }
    refused("none", x.cut(1, 0, 0), 1);
    refused("cut(3, 0, 1)", x.cut(3, 0, 1), 2);
    refused("cut(1, max, 1)", x.cut(1, MAX, 1), 5);
    refused("cut(1, 0, max)", x.cut(1, 0, MAX), 5);
    refused("cut(1, 1, max)", x.cut(1, 1, MAX), 5);
    refused("cut(1, max, max)", x.cut(1, MAX, MAX), 5);
    refused("1 is ahead of 2", x.cut(3, 0, 0), 1);
    refused("1 is ahead of 5", x.cut(1, 3, 0), 1);
    refused("2 is ahead of 5", x.cut(3, MAX, 1), 2);
    same("nothing changed", allTexts(), "be,xyz,a");
    due("ACTS", x.many(4), 5);
  }

  private void copy() {
    sentence("A DOCUMENT more: so many LETTERS (1 and more) of one from a PLACE on: which it is (1; 2; 3; 5).");
    begin();
    fine("the first LETTER", x.copy(0, 0, 1), 3);
    fine("the last LETTER", x.copy(0, 5, 1), 4);
    fine("all", x.copy(1, 0, 3), 5);
    fine("all of 60", x.copy(2, 0, 60), 6);
    fine("some", x.copy(0, 2, 3), 7);
    same("there they are", allTexts(), "abcdef,xyz," + repeat("ab", 30) + ",a,f,xyz," + repeat("ab", 30) + ",cde");
    x.put(5, 0, 0);
    same("the one that was copied stays", text(1), "xyz");
    refused("not so many", x.copy(1, 0, 4), 5);
    refused("not so many from there on", x.copy(1, 2, 2), 5);
    refused("no LETTER from there on", x.copy(1, 3, 1), 5);
    refused("copy(1, max, max)", x.copy(1, MAX, MAX), 5);
    refused("copy(1, 1, max)", x.copy(1, 1, MAX), 5);
    for (int i : BELOW) {
      refused("copy(1, 0, " + i + ")", x.copy(1, 0, i), 1);
      refused("copy(1, " + i + ", 1)", x.copy(1, i, 1), 1);
      refused("copy(" + i + ", 0, 1)", x.copy(i, 0, 1), 2);
    }
    refused("none", x.copy(1, 0, 0), 1);
    refused("copy(8, 0, 1)", x.copy(8, 0, 1), 2);
    fine("the ninth", x.copy(0, 0, 6), 8);
    fine("the tenth", x.copy(8, 0, 6), 9);
    refused("an eleventh", x.copy(0, 0, 1), 3);
    refused("1 is ahead of 3", x.copy(0, 0, 0), 1);
    refused("1 is ahead of 3", x.copy(0, -1, 1), 1);
    refused("2 is ahead of 3", x.copy(10, 0, 1), 2);
    refused("3 is ahead of 5", x.copy(0, 6, 1), 3);
    due("ten", x.many(0), 10);
  }

  private void drop() {
    sentence("A DOCUMENT goes: how many are left (2).");
    refused("of none", x.drop(0), 2);
    loaded(docsOf(10) + patterns("a"));
    for (int i : BELOW) refused("drop(" + i + ")", x.drop(i), 2);
    refused("drop(10)", x.drop(10), 2);
    refused("drop(max)", x.drop(MAX), 2);
    fine("the last", x.drop(9), 9);
    refused("it is gone", x.drop(9), 2);
    fine("the first", x.drop(0), 8);
    fine("one in the middle", x.drop(3), 7);
    same("the others", allTexts(), "b,c,d,f,g,h,i");
    for (int left = 6; left >= 0; left--) fine("the first", x.drop(0), left);
    refused("none is left", x.drop(0), 2);
    due("PATTERNS stay", x.many(1), 1);
  }

  private void forget() {
    sentence("A PATTERN goes: how many are left (2).");
    refused("of none", x.forget(0), 2);
    loaded(docs("a") + patternsOf(8));
    for (int i : BELOW) refused("forget(" + i + ")", x.forget(i), 2);
    refused("forget(8)", x.forget(8), 2);
    refused("forget(max)", x.forget(MAX), 2);
    fine("the last", x.forget(7), 7);
    refused("it is gone", x.forget(7), 2);
    fine("the first", x.forget(0), 6);
    fine("one in the middle", x.forget(3), 5);
    same("the others", allSigns(), "b,c,d,f,g");
    for (int left = 4; left >= 0; left--) fine("the first", x.forget(0), left);
    refused("none is left", x.forget(0), 2);
    due("DOCUMENTS stay", x.many(0), 1);
  }

  private void undo() {
    sentence("The latest ACT is undone: how many can be still (5).");
    refused("none", x.undo(), 5);
    loaded(docs("abc") + patterns("a"));
    String[] texts = new String[8];
    String[] calls = {"put", "let", "cut", "copy", "drop", "forget", "more", "load"};
    for (int i = 0; i < 8; i++) {
      texts[i] = allTexts() + " " + allSigns();
      if (i == 0) x.put(0, 0, 25);
      if (i == 1) x.let(0, 3, 3);
      if (i == 2) x.cut(0, 0, 2);
      if (i == 3) x.copy(0, 1, 1);
      if (i == 4) x.drop(0);
      if (i == 5) x.forget(0);
      if (i == 6) x.more(tell(docs("new") + patterns("new")));
      if (i == 7) x.load(tell(docs("all") + patterns("all")));
      due("many(4) behind " + calls[i], x.many(4), Math.min(8, i + 2));
    }
    for (int i = 7; i >= 0; i--) {
      fine("undo of " + calls[i], x.undo(), i);
      same("undo of " + calls[i], allTexts() + " " + allSigns(), texts[i]);
    }
    refused("a ninth", x.undo(), 5);
    same("it stays", allTexts() + " " + allSigns(), "abc a");
    x.drop(0);
    x.undo();
    refused("it can't be undone twice", x.undo(), 5);
  }

  private void mark() {
    sentence("A MARK more: how many (3).");
    for (int many = 1; many <= 3; many++) fine("mark()", x.mark(), many);
    refused("a fourth", x.mark(), 3);
    refused("a fourth again", x.mark(), 3);
    due("three", x.many(5), 3);
    loaded(docs("a"));
    refused("load() leaves them", x.mark(), 3);
    x.undo();
    refused("undo() leaves them", x.mark(), 3);
    x.back();
    fine("behind back()", x.mark(), 3);
  }

  private void back() {
    sentence("All is taken back to the latest MARK: how many are left (5).");
    refused("without one", x.back(), 5);
    x.mark();
    loaded(docs("a") + patterns("a"));
    fine("to nothing", x.back(), 0);
    due("no DOCUMENT", x.many(0), 0);
    due("no PATTERN", x.many(1), 0);
    due("no ACT", x.many(4), 0);
    refused("none is left", x.back(), 5);
    loaded(docs("ab", "cd") + patterns("a", "b"));
    x.mark();
    for (int i = 0; i < 20; i++) x.put(0, 0, 25 - i);
    x.drop(1);
    x.forget(1);
    x.load(0);
    fine("behind more than 8 ACTS", x.back(), 0);
    same("all of it", allTexts() + " " + allSigns(), "ab,cd a,b");
    due("what could be undone then", x.many(4), 1);
    fine("is undone", x.undo(), 0);
    loaded(docs("ab"));
    x.mark();
    x.undo();
    due("nothing is there", x.many(0), 0);
    fine("to what was undone behind the MARK", x.back(), 0);
    same("all of it", allTexts(), "ab");
    x.put(0, 0, 9);
    x.mark();
    x.mark();
    x.put(0, 0, 8);
    fine("two at one time", x.back(), 1);
    same("the same", allTexts(), "jb");
    x.put(0, 0, 7);
    fine("the other one", x.back(), 0);
    same("the same", allTexts(), "jb");
  }

  // ---- promises 30 and 31

  private void would() {
    sentence("How many DOCUMENTS more or less in all LISTS together, were another LETTER put there "
        + "(1: not 0 to 25, PLACE below 0; 2; 5);");
    loaded(docs("a", "ab", "abc", "aaaaaaa", "xyxyxyx", "bcdbcd", "abc", repeat("z", 60)));
    fine("one LETTER", x.would(0, 0, 5), 0);
    fine("two LETTERS", x.would(1, 1, 5), 0);
    fine("abc to abz", x.would(2, 2, 25), 0);
    fine("the LETTER that stands there", x.would(2, 0, 0), 0);
    fine("three TRIPLES more in the middle: aab aba baa", x.would(3, 3, 1), 3);
    fine("one more at the begin", x.would(3, 0, 1), 1);
    fine("two more behind it", x.would(3, 1, 1), 2);
    fine("one more at the end", x.would(3, 6, 1), 1);
    fine("two more ahead of the end", x.would(3, 5, 1), 2);
    fine("xyxyxyz", x.would(4, 6, 25), 1);
    fine("bcdbcd to bcdbbd", x.would(5, 4, 1), 1);
    fine("the 60th", x.would(7, 59, 0), 1);
    fine("the 30th", x.would(7, 29, 0), 3);
    fine("after a long one", x.would(2, 1, 2), 0);
    for (int i : BELOW) {
      refused("would(0, 0, " + i + ")", x.would(0, 0, i), 1);
      refused("would(0, " + i + ", 0)", x.would(0, i, 0), 1);
      refused("would(" + i + ", 0, 0)", x.would(i, 0, 0), 2);
    }
    refused("would(0, 0, 26)", x.would(0, 0, 26), 1);
    refused("would(0, 0, max)", x.would(0, 0, MAX), 1);
    refused("would(8, 0, 0)", x.would(8, 0, 0), 2);
    refused("would(0, 1, 0)", x.would(0, 1, 0), 5);
    refused("would(7, 60, 0)", x.would(7, 60, 0), 5);
    refused("would(0, max, 0)", x.would(0, MAX, 0), 5);
    refused("1 is ahead of 2", x.would(8, 0, 26), 1);
    refused("1 is ahead of 5", x.would(0, 1, 26), 1);
    refused("2 is ahead of 5", x.would(8, 1, 0), 2);
    same("it is on paper", text(3), "aaaaaaa");
    due("no ACT", x.many(4), 1);
    int before = x.document(5, 1);
    int told = x.would(5, 4, 1);
    x.put(5, 4, 1);
    fine("as it is then", x.document(5, 1), before + told);
  }

  private void wouldNone() {
    sentence("STATUS tells NONE from -1.");
    loaded(docs("aaab", "aabaa", "aaabaaa"));
    due("one less", x.would(0, 3, 0), -1);
    due("is an answer", x.status(), 0);
    due("no such PLACE", x.would(0, 4, 0), -1);
    due("is none", x.status(), 5);
    fine("two less", x.would(1, 2, 0), -2);
    fine("three less", x.would(2, 3, 0), -3);
    fine("and as many", x.would(0, 3, 2), 0);
  }

  private void best() {
    sentence("The LETTER that, put at a PLACE, makes a DOCUMENT FIT most PATTERNS, of several the least (1: below 0; 2; 5).");
    loaded(docs("xbcx", "q", repeat("a", 60)));
    fine("without PATTERNS", x.best(0, 0), 0);
    x.more(tell(patterns("zbc", "xbz")));
    fine("the first PLACE", x.best(0, 0), 25);
    fine("another PLACE", x.best(0, 2), 25);
    fine("none helps", x.best(0, 3), 0);
    fine("one LETTER", x.best(1, 0), 0);
    fine("the 60th", x.best(2, 59), 0);
    for (int i : BELOW) {
      refused("best(0, " + i + ")", x.best(0, i), 1);
      refused("best(" + i + ", 0)", x.best(i, 0), 2);
    }
    refused("best(3, 0)", x.best(3, 0), 2);
    refused("best(max, 0)", x.best(MAX, 0), 2);
    refused("best(0, 4)", x.best(0, 4), 5);
    refused("best(2, 60)", x.best(2, 60), 5);
    refused("best(0, max)", x.best(0, MAX), 5);
    refused("1 is ahead of 2", x.best(3, -1), 1);
    refused("2 is ahead of 5", x.best(3, 4), 2);
    same("it is on paper", allTexts(), "xbcx,q," + repeat("a", 60));
  }

  private void bestIs(String doc, int place, char letter, String... patterns) {
    x = new PatternGate();
    loaded(docs(doc) + patterns(patterns));
    fine("best of " + doc + " at " + place, x.best(0, place), letter - 'a');
  }

  private void bestOfSeveral() {
    sentence("makes a DOCUMENT FIT most PATTERNS, of several the least");
    bestIs("q", 0, 'a', "z|a", "a|z");
    bestIs("q", 0, 'z', "z", "a", "z");
    bestIs("q", 0, 'b', "b", "c", "d");
    bestIs("q", 0, 'z', "z");
    bestIs("q", 0, 'y', "[yz]");
    bestIs("q", 0, 'a', "q?");
    bestIs("q", 0, 'q', "q");
    // the first PATTERN counts as the others do
    bestIs("q", 0, 'z', "z", "[az]");
    bestIs("q", 0, 'b', "[bc]", "[ab]", "x");
    bestIs("q", 0, 'h', "a", "h", "h", "b", "b", "h", "c", "d");
    // a match ahead of the PLACE, behind it, or over it; what fits anyway counts for all
    bestIs("abq", 2, 'a', "ab");
    bestIs("qab", 0, 'a', "ab");
    bestIs("abq", 2, 'c', "ab", "abc");
    bestIs("qbc", 0, 'z', "bc", "zbc");
    bestIs("abqde", 2, 'c', "abcde");
    bestIs("abqde", 2, 'm', "bmd");
    bestIs("abqde", 2, 'y', "b[cd]f|byd");
    bestIs("abqde", 2, 'x', "abx+de");
    bestIs("abqde", 2, 'c', "ab(d|c)d*e");
    bestIs("abqde", 2, 'd', "ab(e|d)d*e");
    // what fits without the PLACE counts for each LETTER, also if one more could fit over it
    bestIs("qab", 0, 'a', "ab|zab");
    bestIs("qxab", 0, 'a', "ab|zx");
    bestIs("abq", 2, 'a', "ab|abz");
    bestIs("abxq", 3, 'a', "ab|xz");
    bestIs("qx", 0, 'a', "z?");
    bestIs("xq", 1, 'a', "z?");
    // no row has begun ahead of the first LETTER
    bestIs("qc", 0, 'a', "abc");
    bestIs("xqc", 1, 'a', "zbc");
    // more than one way must be open from ahead and from behind
    bestIs("abqde", 2, 'c', "(ab|xb)cd(e|x)");
    bestIs("abqde", 2, 'w', "(a|ab)w(d|de)x|bwde");
    bestIs("ababqbaba", 4, 'c', "(ab)+c(ba)+b|abxba", "bcb");
    // what fits only by what stands there goes with another LETTER
    bestIs("abc", 1, 'b', "abc", "a.c");
    bestIs("abc", 1, 'z', "abc", "azc", "azc");
  }
}
