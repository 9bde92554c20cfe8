/** Promise by promise: ordinary inputs, the edges that the document names, wrong inputs. */
public final class PromisesTest extends Checks {
  private PromisesTest(int promise) {
    super("promise " + promise);
  }

  public static void main(String[] args) {
    newObject();
    status();
    feed();
    load();
    more();
    faultsOfTokens();
    faultsOfDocuments();
    faultsOfPatterns();
    faultsOfLimits();
    faultOfTheLatest();
    many();
    document();
    letter();
    pattern();
    sign();
    exactAndNeed();
    needBothAndEither();
    exactAsked();
    needAsked();
    list();
    often();
    gate();
    match();
    alive();
    rarest();
    within();
    put();
    let();
    cut();
    copy();
    drop();
    forget();
    undo();
    mark();
    back();
    would();
    best();
    end("PromisesTest");
  }

  // ---- promises

  private static void newObject() {
    PromisesTest t = new PromisesTest(1);
    PatternGate x = t.x;
    t.due("status()", x.status(), 0);
    for (int what = 0; what < 6; what++) t.fine("many(" + what + ")", x.many(what), 0);
    t.due("fault(0)", x.fault(0), -1);
    t.due("fault(1)", x.fault(1), -1);
    t.refused("undo()", x.undo(), 5);
    t.refused("back()", x.back(), 5);
    t.refused("load(1) of an empty tape", x.load(1), 1);
    t.refused("letter(0, 0)", x.letter(0, 0), 2);
    t.due("NONE", PatternGate.NONE, -1);
  }

  private static void status() {
    PromisesTest t = new PromisesTest(2);
    PatternGate x = t.x;
    x.many(9);
    t.due("status()", x.status(), 1);
    t.due("status() again", x.status(), 1);
    x.feed(0, 0, 0, 0, 0);
    t.due("status() behind feed()", x.status(), 1);
    x.fault(0);
    t.due("status() behind fault()", x.status(), 1);
    x.many(0);
    t.due("status() behind a good call", x.status(), 0);
    x.drop(0);
    t.due("status() behind drop(0)", x.status(), 2);
    x.fault(7);
    t.due("status() behind fault(7)", x.status(), 2);
  }

  private static void feed() {
    PromisesTest t = new PromisesTest(3);
    PatternGate x = t.x;
    for (int i = 1; i <= 45; i++) {
      t.due("feed " + i, x.feed(0x20202020, 0x0a0a0a0a, 0x20202020, 0x20202020, 0x20202020), 20 * i);
    }
    t.due("feed 46", x.feed(0, 0, 0, 0, 0), -1);
    t.due("feed 47", x.feed(0x20202020, 0, 0, 0, 0), -1);
    t.refused("load(901)", x.load(901), 1);
    t.fine("load(900)", x.load(900), 0);
    t.due("feed behind load()", x.feed(0x646f6320, 0x2261627a, 0x223b8041, 0x42434445, 0xffffffff), 20);
    t.refused("load(11)", x.load(11), 9);
    t.due("fault(1), the byte 128", x.fault(1), 10);
    x.feed(0x646f6320, 0x2261627a, 0x223b8041, 0x42434445, 0xffffffff);
    t.fine("load(10)", x.load(10), 1);
    t.same("highest byte first", t.text(0), "abz");
  }

  private static void load() {
    PromisesTest t = new PromisesTest(4);
    PatternGate x = t.x;
    t.fine("load", t.loaded(docs("abc", "d") + patterns("a", "b", "c")), 2);
    t.due("many(1)", x.many(1), 3);
    t.refused("load(-1)", x.load(-1), 1);
    t.refused("load(1), the tape is empty", x.load(1), 1);
    t.fine("load again", t.loaded("pattern\"ab\"\n;\n\n doc  \"xyz\" ;"), 1);
    t.same("what there was is gone", t.allTexts(), "xyz");
    t.due("many(1)", x.many(1), 1);
    t.tell(docs("abc"));
    t.refused("load(21): not so many", x.load(21), 1);
    t.refused("load(min)", x.load(Integer.MIN_VALUE), 1);
    t.refused("load(max)", x.load(Integer.MAX_VALUE), 1);
    t.refused("load(5) ends in a quote", x.load(5), 9);
    t.due("the tape is empty behind 9", x.feed(0, 0, 0, 0, 0), 20);
    t.same("all stays", t.allTexts(), "xyz");
    t.due("many(4) stays", x.many(4), 2);
    t.refused("load(20) of zeros", x.load(20), 9);
    t.tell("junk behind what is told");
    t.fine("load(0)", x.load(0), 0);
    t.refused("load(1): the rest of the tape is gone", x.load(1), 1);
    t.due("load(0) is an ACT", x.many(4), 3);
    x.undo();
    t.same("load undone", t.allTexts(), "xyz");
    t.fine("ten documents, eight patterns",
        t.loaded(docs("a", "b", "c", "d", "e", "f", "g", "h", "i", "j")
            + patterns("a", "b", "c", "d", "e", "f", "g", "h")), 10);
    t.due("many(1)", x.many(1), 8);
    t.fine("what there was does not count for load()", t.loaded(docs("a", "b")), 2);
  }

  private static void more() {
    PromisesTest t = new PromisesTest(5);
    PatternGate x = t.x;
    t.loaded(docs("abc") + patterns("a"));
    t.fine("more", x.more(t.tell(patterns("b") + docs("de", "fg"))), 3);
    t.same("behind", t.allTexts(), "abc,de,fg");
    t.same("patterns behind", t.signs(0) + t.signs(1), "ab");
    t.refused("more(-1)", x.more(-1), 1);
    t.tell("doc");
    t.refused("more(21)", x.more(21), 1);
    t.refused("more(3) ends behind doc", x.more(3), 9);
    t.due("fault(0)", x.fault(0), 2);
    t.due("fault(1)", x.fault(1), 3);
    t.refused("more(1): the tape is empty", x.more(1), 1);
    t.fine("more(0)", x.more(0), 0);
    t.due("more(0) is an ACT", x.many(4), 3);
    String seven = docs("a", "b", "c", "d", "e", "f", "g");
    t.refused("an eleventh", x.more(t.tell(seven + docs("h"))), 9);
    t.due("fault(0)", x.fault(0), 3);
    t.due("fault(1)", x.fault(1), seven.length());
    t.same("nothing came", t.allTexts(), "abc,de,fg");
    t.fine("the tenth", x.more(t.tell(seven)), 7);
    t.refused("one more", x.more(t.tell(" " + docs("h"))), 9);
    t.due("fault(0)", x.fault(0), 3);
    t.due("fault(1)", x.fault(1), 1);
    t.fine("six patterns", x.more(t.tell(patterns("c", "d", "e", "f", "g", "h"))), 6);
    t.refused("a ninth pattern", x.more(t.tell(patterns("c"))), 9);
    t.due("fault(0)", x.fault(0), 3);
    t.due("fault(1)", x.fault(1), 0);
  }

  private static void faultsOfTokens() {
    PromisesTest t = new PromisesTest(6);
    t.faulty("1", 1, 0);
    t.faulty("\t", 1, 0);
    t.faulty("\r\n", 1, 0);
    t.faulty("Doc \"a\";", 1, 0);
    t.faulty("  doc\n'a';", 1, 6);
    t.faulty("word", 2, 0);
    t.faulty("do \"a\";", 2, 0);
    t.faulty("boc \"a\";", 2, 0);
    t.faulty("dog \"a\";", 2, 0);
    t.faulty("dxc \"a\";", 2, 0);
    t.faulty("xattern \"a\";", 2, 0);
    t.faulty("patterm \"a\";", 2, 0);
    t.faulty("doc", 2, 3);
    t.faulty("doc  ", 2, 5);
    t.faulty("pattern", 2, 7);
    t.faulty("docpattern \"a\";", 2, 0);
    t.faulty("patterns \"a\";", 2, 0);
    t.faulty("doc doc \"a\";", 2, 4);
    t.faulty("doc ;", 2, 4);
    t.faulty(";", 2, 0);
    t.faulty("\"a\";", 2, 0);
    t.faulty("\"A", 2, 0);
    t.faulty("doc \"a\" \"b\";", 2, 8);
    t.faulty("doc \"a\" doc", 2, 8);
    t.faulty("doc \"a\"", 2, 7);
    t.faulty("doc \"a\" \n ", 2, 10);
    t.faulty("doc \"a\";;", 2, 8);
    t.faulty("doc \"a\"; x", 2, 9);
    t.faulty("doc \"a\"; 5", 1, 9);
    t.faulty("doc5", 1, 3);
    t.fine("no blanks", t.loaded("doc\"a\";pattern\"a\";doc\"b\";"), 2);
    t.due("fault(0)", t.x.fault(0), 0);
    t.due("fault(1)", t.x.fault(1), -1);
  }

  private static void faultsOfDocuments() {
    PromisesTest t = new PromisesTest(6);
    t.faulty("doc \"", 1, 5);
    t.faulty("doc \"ab", 1, 7);
    t.faulty("doc \"\";", 1, 5);
    t.faulty("doc \"a b\";", 1, 6);
    t.faulty("doc \"a.\";", 1, 6);
    t.faulty("doc \"aB\";", 1, 6);
    t.faulty("doc \"a;", 1, 6);
    t.faulty("doc \"" + repeat("a", 61) + "\";", 4, 65);
    t.faulty("doc \"" + repeat("a", 60) + "5", 1, 65);
    t.faulty("doc \"" + repeat("a", 60), 1, 65);
    t.fine("60 letters", t.loaded(docs(repeat("ab", 30))), 1);
  }

  private static void faultsOfPatterns() {
    PromisesTest t = new PromisesTest(6);
    t.faultyPattern("", 1, 0);
    t.faultyPattern("\";", 1, 0);
    t.faultyPattern("a", 1, 1);
    t.faultyPattern("a b\";", 1, 1);
    t.faultyPattern("a\nb\";", 1, 1);
    t.faultyPattern("*a\";", 1, 0);
    t.faultyPattern("|a\";", 1, 0);
    t.faultyPattern("a|\";", 1, 2);
    t.faultyPattern("a||b\";", 1, 2);
    t.faultyPattern("a|*\";", 1, 2);
    t.faultyPattern("()\";", 1, 1);
    t.faultyPattern("(a\";", 1, 2);
    t.faultyPattern("(a|)\";", 1, 3);
    t.faultyPattern("(*a)\";", 1, 1);
    t.faultyPattern("a)\";", 1, 1);
    t.faultyPattern("(a))\";", 1, 3);
    t.faultyPattern("a*?\";", 1, 2);
    t.faultyPattern("a+?\";", 1, 2);
    t.faultyPattern("a?+\";", 1, 2);
    t.faultyPattern("(a)**\";", 1, 4);
    t.faultyPattern("[]\";", 1, 1);
    t.faultyPattern("[a\";", 1, 2);
    t.faultyPattern("[a", 1, 2);
    t.faultyPattern("[a.]\";", 1, 2);
    t.faultyPattern("[a[b]]\";", 1, 2);
    t.faultyPattern("a]\";", 1, 1);
    t.faultyPattern("aB\";", 1, 1);
    t.faultyPattern("a1\";", 1, 1);
    t.faultyPattern("a{b}\";", 1, 1);
    t.faultyPattern("[aba]\";", 4, 3);
    t.faultyPattern("[abcdefghijklmnopqrstuvwxyzq]\";", 4, 27);
    t.faultyPattern("[abcdefghijklmnopqrstuvwxyz", 1, 27);
    t.faultyPattern("a\" \"", 2, 3);
    t.fine("good ones", t.loaded(patterns("[abcdefghijklmnopqrstuvwxyz]", "(a*|b+)?c.", "((a))|b")), 0);
    t.due("many(1)", t.x.many(1), 3);
  }

  private static void faultsOfLimits() {
    PromisesTest t = new PromisesTest(6);
    t.faultyPattern(repeat("a", 25) + "\";", 4, 24);
    t.faultyPattern(repeat("a", 24) + "[aa]\";", 4, 24);
    t.faultyPattern(repeat("a", 24) + ".\";", 4, 24);
    t.faultyPattern(repeat("[ab]*", 24) + "(a)\";", 4, 121);
    t.faultyPattern(repeat("a", 24) + "(*", 1, 25);
    t.faultyPattern("((((((a", 4, 5);
    t.faultyPattern("(((((a)))))(((((a(", 4, 17);
    t.fine("24 spots, 5 deep", t.loaded(patterns(repeat("a", 24), "(((((a)))))(((((b)))))")), 0);
    String ten = docs("a", "b", "c", "d", "e", "f", "g", "h", "i", "j");
    t.faulty(ten + "doc 5", 3, ten.length());
    t.faulty(ten + "docs", 2, ten.length());
    t.faulty(ten + "\n  doc", 3, ten.length() + 3);
    String eight = patterns("a", "b", "c", "d", "e", "f", "g", "h");
    t.faulty(eight + docs("a") + "pattern", 3, eight.length() + 8);
    t.faulty(ten + eight + "x", 2, ten.length() + eight.length());
  }

  private static void faultOfTheLatest() {
    PromisesTest t = new PromisesTest(6);
    PatternGate x = t.x;
    t.faulty("doc \"a\" x", 2, 8);
    x.load(1);
    t.due("fault(0) behind STATUS 1", x.fault(0), 2);
    t.due("fault(1) behind STATUS 1", x.fault(1), 8);
    x.many(0);
    x.undo();
    t.due("fault(0) behind other calls", x.fault(0), 2);
    t.due("fault(2)", x.fault(2), -1);
    t.due("fault(-1)", x.fault(-1), -1);
    x.more(t.tell(docs("a")));
    t.due("fault(0) of more()", x.fault(0), 0);
    t.due("fault(1) of more()", x.fault(1), -1);
    x.more(t.tell("doc \"\""));
    t.due("fault(0) of more()", x.fault(0), 1);
    t.due("fault(1) of more()", x.fault(1), 5);
    x.undo();
    t.due("fault(0) behind undo()", x.fault(0), 1);
  }

  private static void many() {
    PromisesTest t = new PromisesTest(7);
    PatternGate x = t.x;
    t.loaded(docs("abcab", "bcab", "aa", "zzzz") + patterns("a", "b"));
    t.fine("many(0)", x.many(0), 4);
    t.fine("many(1)", x.many(1), 2);
    t.fine("many(2)", x.many(2), 15);
    t.fine("many(3): abc bca cab zzz", x.many(3), 4);
    t.fine("many(4)", x.many(4), 1);
    t.fine("many(5)", x.many(5), 0);
    x.mark();
    x.drop(3);
    t.fine("many(2)", x.many(2), 11);
    t.fine("many(3)", x.many(3), 3);
    t.fine("many(4)", x.many(4), 2);
    t.fine("many(5)", x.many(5), 1);
    t.refused("many(6)", x.many(6), 1);
    t.refused("many(-1)", x.many(-1), 1);
  }

  private static void document() {
    PromisesTest t = new PromisesTest(8);
    PatternGate x = t.x;
    t.loaded(docs("abcabcx", "ab", "bcdabc")
        + patterns("abcd", "cx", "abc", "(abc|bcd)x", ".*", "zzz"));
    t.fine("letters", x.document(0, 0), 7);
    t.fine("unlike triples: abc bca cab bcx", x.document(0, 1), 4);
    t.fine("no triples", x.document(1, 1), 0);
    t.fine("fits cx, abc, (abc|bcd)x and .*", x.document(0, 2), 2 + 4 + 8 + 16);
    t.fine("passes cx, abc, .*, and the third by abc", x.document(0, 3), 2 + 4 + 16 + 8);
    t.fine("fits .*", x.document(1, 2), 16);
    t.fine("passes cx and .*", x.document(1, 3), 2 + 16);
    t.fine("fits abc, .*", x.document(2, 2), 4 + 16);
    t.fine("passes abcd, too", x.document(2, 3), 1 + 2 + 4 + 16);
    t.refused("document(0, 4)", x.document(0, 4), 1);
    t.refused("document(0, -1)", x.document(0, -1), 1);
    t.refused("document(9, 4)", x.document(9, 4), 1);
    t.refused("document(3, 0)", x.document(3, 0), 2);
    t.refused("document(-1, 0)", x.document(-1, 0), 2);
  }

  private static void letter() {
    PromisesTest t = new PromisesTest(9);
    PatternGate x = t.x;
    t.loaded(docs("az", "q"));
    t.fine("letter(0, 0)", x.letter(0, 0), 0);
    t.fine("letter(0, 1)", x.letter(0, 1), 25);
    t.fine("letter(1, 0)", x.letter(1, 0), 16);
    t.refused("letter(0, 2)", x.letter(0, 2), 5);
    t.refused("letter(0, -1)", x.letter(0, -1), 1);
    t.refused("letter(5, -1)", x.letter(5, -1), 1);
    t.refused("letter(2, 9)", x.letter(2, 9), 2);
    t.refused("letter(-1, 0)", x.letter(-1, 0), 2);
  }

  private static void pattern() {
    PromisesTest t = new PromisesTest(10);
    t.patternIs("a", 1, 0, 1, 3);
    t.patternIs("[abc].", 2, 0, 2, 3);
    t.patternIs("a*", 1, 1, 0, 4);
    t.patternIs("a+", 1, 0, 1, 4);
    t.patternIs("(a)", 1, 0, 1, 5);
    t.patternIs("((a)+)?", 1, 1, 0, 9);
    t.patternIs("(((((a*)*)*)*)*)*", 1, 1, 0, 19);
    t.patternIs("a+b?c*(de|f)", 6, 0, 2, 5);
    t.patternIs("abc|de|fghi", 9, 0, 2, 3);
    t.patternIs("abc|d?", 4, 1, 0, 4);
    t.patternIs("(a*)+", 1, 1, 0, 7);
    t.patternIs(repeat("a", 24), 24, 0, 24, 3);
    t.x = new PatternGate();
    t.loaded(patterns("abcd|xbcd", "a.b", "abc|abd", "abcabc"));
    PatternGate x = t.x;
    t.fine("choices", x.pattern(0, 2), 2);
    t.fine("rows", x.pattern(0, 3), 2);
    t.fine("unlike triples: abc bcd xbc", x.pattern(0, 6), 3);
    t.fine("one empty choice", x.pattern(1, 2), 1);
    t.fine("no EXACT, with STATUS 0", x.pattern(1, 3), -1);
    t.fine("no triples", x.pattern(1, 6), 0);
    t.fine("abc bca cab", x.pattern(3, 6), 3);
    t.refused("pattern(0, 8)", x.pattern(0, 8), 1);
    t.refused("pattern(9, -1)", x.pattern(9, -1), 1);
    t.refused("pattern(4, 0)", x.pattern(4, 0), 2);
    t.refused("pattern(-1, 0)", x.pattern(-1, 0), 2);
  }

  private static void sign() {
    PromisesTest t = new PromisesTest(11);
    PatternGate x = t.x;
    t.loaded(patterns("a", "(b|[cd]*).+"));
    t.same("all bytes", t.signs(1), "(b|[cd]*).+");
    t.fine("sign(1, 0)", x.sign(1, 0), 40);
    t.fine("sign(1, 10)", x.sign(1, 10), 43);
    t.refused("sign(1, 11)", x.sign(1, 11), 5);
    t.refused("sign(0, -1)", x.sign(0, -1), 1);
    t.refused("sign(7, -1)", x.sign(7, -1), 1);
    t.refused("sign(2, 0)", x.sign(2, 0), 2);
    t.refused("sign(-1, 0)", x.sign(-1, 0), 2);
  }

  private static void exactAndNeed() {
    PromisesTest t = new PromisesTest(12);
    t.becomes("a", "a", "");
    t.becomes("ab", "ab", "");
    t.becomes("abc", "abc", "abc");
    t.becomes("abab", "abab", "aba bab");
    t.becomes("aaaaa", "aaaaa", "aaa");
    t.becomes("abcdefgh", "abcdefgh", "abc bcd cde def efg fgh");
    t.becomes("abcdefghi", "none", "abc bcd cde def efg fgh ghi");
    t.becomes("zyx|abc|mno", "abc,mno,zyx", "abc|mno|zyx");
    t.becomes("abc|ab", "ab,abc", "");
    t.becomes("abcd|bcd", "abcd,bcd", "bcd");
    t.becomes("abcd|abc|abcd", "abc,abcd", "abc");
    t.becomes("[fa]", "a,f", "");
    t.becomes("[fedcba]", "a,b,c,d,e,f", "");
    t.becomes("[abcdefg]", "none", "");
    t.becomes(".", "none", "");
    t.becomes("[ba]cd", "acd,bcd", "acd|bcd");
    t.becomes("a*", "none", "");
    t.becomes("(abc)*", "none", "");
    t.becomes("(abc)+", "none", "abc");
    t.becomes("(abc)?", ",abc", "");
    t.becomes("(abc|x)?", ",abc,x", "");
    t.becomes("[abcde]?", ",a,b,c,d,e", "");
    t.becomes("[abcdef]?", "none", "");
    t.becomes("(a?)?", ",a", "");
    t.becomes("(a?b?c?)?", "none", "");
    t.becomes("a?b?", ",a,ab,b", "");
    t.becomes("a?a?a?", ",a,aa,aaa", "");
    t.becomes("abc*d", "none", "");
    t.becomes("abcx*def", "none", "abc def");
    t.becomes("abc.bcd", "none", "abc bcd");
    t.becomes("abc(def)+ghi", "none", "abc def ghi");
    t.becomes("ab(cde)+f", "none", "cde");
    t.becomes("ab(cd|ce)f", "abcdf,abcef", "abc bcd cdf|abc bce cef");
    t.becomes("((abc))", "abc", "abc");
    t.becomes("(((((abc)))))(((((d|e)))))", "abcd,abce", "abc bcd|abc bce");
    t.becomes("(((((a|b)))))(((((c)))))d|x", "acd,bcd,x", "");
    t.becomes("(((((abc)+))))(((((d)))))ef", "none", "abc def");
  }

  private static void needBothAndEither() {
    PromisesTest t = new PromisesTest(13);
    t.becomes("[abc][de]f", "adf,aef,bdf,bef,cdf,cef", "adf|aef|bdf|bef|cdf|cef");
    t.becomes("[abc][def]", "none", "");
    t.becomes("[abc][def]gh", "none", "dgh|egh|fgh");
    t.becomes("xy[abc][def]", "none", "xya|xyb|xyc");
    t.becomes("xy[abc][de]", "xyad,xyae,xybd,xybe,xycd,xyce",
        "xya yad|xya yae|xyb ybd|xyb ybe|xyc ycd|xyc yce");
    t.becomes("[abc]xy[de]f", "axydf,axyef,bxydf,bxyef,cxydf,cxyef",
        "axy xyd ydf|axy xye yef|bxy xyd ydf|bxy xye yef|cxy xyd ydf|cxy xye yef");
    t.becomes("[ab]xy[cd][ef]", "none", "axy xyc|axy xyd|bxy xyc|bxy xyd");
    t.becomes("[ab]xy[cd].[gh]kl", "none", "axy gkl xyc|axy gkl xyd|axy hkl xyc|axy hkl xyd"
        + "|bxy gkl xyc|bxy gkl xyd|bxy hkl xyc|bxy hkl xyd");
    t.becomes("[ab]xy[cd].[ghij]kl", "none", "axy xyc|axy xyd|bxy xyc|bxy xyd");
    t.becomes("[abc]kl.[defg]mn", "none", "akl dmn|akl emn|akl fmn|akl gmn|bkl dmn|bkl emn|bkl fmn"
        + "|bkl gmn|ckl dmn|ckl emn|ckl fmn|ckl gmn");
    t.becomes("[abc]kl.[abcde]kl", "none", "akl|bkl|ckl");
    t.becomes("[abcd]kl.[abcde]kl", "none", "akl|bkl|ckl|dkl");
    t.becomes("[abc]de(fghi|jkl)mn[op]q", "none", needOfLongBranch());
    t.becomes("abcdefg(hij|klm)", "none",
        "abc bcd cde def efg fgh ghi hij|abc bcd cde def efg fgk gkl klm");
    t.becomes("abcdefgh(ijklmno|p)", "none", "abc bcd cde def efg fgh");
    t.becomes("abc(defghij)", "none", "abc def efg fgh ghi hij");
    t.becomes("abc|a.", "none", "");
    t.becomes("abc|(bcd)+|abce", "none", "abc|bcd");
    t.becomes("[abc][de]f|[ghi][jk]l", "none",
        "adf|aef|bdf|bef|cdf|cef|gjl|gkl|hjl|hkl|ijl|ikl");
    t.becomes("[abc][de]f|[ghi][jk]l|adfx", "none",
        "adf|aef|bdf|bef|cdf|cef|gjl|gkl|hjl|hkl|ijl|ikl");
    t.becomes("[abc][de]f|[ghi][jk]l|mno", "none", "");
    t.becomes("[abc][de]f|[ghi][jk]l|mno|abc", "none", "");
    t.becomes("x([abc][de]f|[ghi][jk]l|mno)pqr", "none", "pqr");
  }

  /**
   * Of [abc]de(fghi|jkl)mn[op]q: with m the 6 rows have at most 8 LETTERS, with n one would have 9:
   * so they go to NEED. Then R is {im,lm} with n, o or p, q: 4 rows; 6 times 4 are more than 12
   * CHOICES, and the first NEED stays.
   */
  private static String needOfLongBranch() {
    StringBuilder need = new StringBuilder();
    for (String head : new String[] {"a", "b", "c"}) {
      need.append(need.length() == 0 ? "" : "|").append(head).append("de def efg fgh ghi him");
      need.append('|').append(head).append("de dej ejk jkl klm");
    }
    return need.toString();
  }

  private static void exactAsked() {
    PromisesTest t = new PromisesTest(12);
    PatternGate x = t.x;
    t.loaded(patterns("(ba|ab)c?", "a.", "b?"));
    t.same("rows in order", t.exactOf(0), "ab,abc,ba,bac");
    t.fine("exact(0, 1, 2)", x.exact(0, 1, 2), 2);
    t.refused("exact(0, 0, 2): it ends", x.exact(0, 0, 2), 5);
    t.refused("exact(0, 4, 0): no such row", x.exact(0, 4, 0), 5);
    t.refused("exact(1, 0, 0): none", x.exact(1, 0, 0), 5);
    t.refused("exact(2, 0, 0): an empty row", x.exact(2, 0, 0), 5);
    t.fine("exact(2, 1, 0)", x.exact(2, 1, 0), 1);
    t.refused("exact(0, -1, 0)", x.exact(0, -1, 0), 1);
    t.refused("exact(9, 0, -1)", x.exact(9, 0, -1), 1);
    t.refused("exact(3, 0, 0)", x.exact(3, 0, 0), 2);
    t.refused("exact(-1, 0, 0)", x.exact(-1, 0, 0), 2);
    t.refused("exact(0, max, max)", x.exact(0, Integer.MAX_VALUE, Integer.MAX_VALUE), 5);
  }

  private static void needAsked() {
    PromisesTest t = new PromisesTest(13);
    PatternGate x = t.x;
    t.loaded(patterns("zabc|xyz", "a."));
    t.fine("need(0, 0, 0)", x.need(0, 0, 0), triple("abc"));
    t.fine("need(0, 0, 1)", x.need(0, 0, 1), triple("zab"));
    t.fine("need(0, 1, 0)", x.need(0, 1, 0), triple("xyz"));
    t.refused("need(0, 1, 1)", x.need(0, 1, 1), 5);
    t.refused("need(0, 2, 0)", x.need(0, 2, 0), 5);
    t.refused("need(1, 0, 0)", x.need(1, 0, 0), 5);
    t.refused("need(0, -1, 0)", x.need(0, -1, 0), 1);
    t.refused("need(7, 0, -1)", x.need(7, 0, -1), 1);
    t.refused("need(2, 0, 0)", x.need(2, 0, 0), 2);
    t.refused("need(-1, 0, 0)", x.need(-1, 0, 0), 2);
    t.refused("need(0, max, max)", x.need(0, Integer.MAX_VALUE, Integer.MAX_VALUE), 5);
    t.refused("need(0, 0, max)", x.need(0, 0, Integer.MAX_VALUE), 5);
  }

  private static void list() {
    PromisesTest t = new PromisesTest(14);
    PatternGate x = t.x;
    t.loaded(docs("abc", "zzzz", "xabcabc", "ab"));
    t.fine("list(abc, 0)", x.list(triple("abc"), 0), 0);
    t.fine("list(abc, 1)", x.list(triple("abc"), 1), 2);
    t.refused("list(abc, 2)", x.list(triple("abc"), 2), 5);
    t.fine("list(zzz, 0)", x.list(17575, 0), 1);
    t.refused("list(aaa, 0)", x.list(0, 0), 5);
    t.refused("list(17576, 0)", x.list(17576, 0), 1);
    t.refused("list(-1, 0)", x.list(-1, 0), 1);
    t.refused("list(28, -1)", x.list(28, -1), 1);
    t.refused("list(28, max)", x.list(28, Integer.MAX_VALUE), 5);
    x.drop(0);
    t.fine("list(abc, 0) behind drop()", x.list(triple("abc"), 0), 1);
    x.undo();
    t.fine("list(abc, 1) behind undo()", x.list(triple("abc"), 1), 2);
  }

  private static void often() {
    PromisesTest t = new PromisesTest(15);
    PatternGate x = t.x;
    t.loaded(docs("aaaaa", "abcabc", "ab"));
    t.fine("often(0, aaa)", x.often(0, 0), 3);
    t.fine("often(1, abc)", x.often(1, 28), 2);
    t.fine("often(1, cab)", x.often(1, triple("cab")), 1);
    t.fine("often(1, zzz)", x.often(1, 17575), 0);
    t.fine("often(2, abc)", x.often(2, 28), 0);
    t.refused("often(0, 17576)", x.often(0, 17576), 1);
    t.refused("often(9, -1)", x.often(9, -1), 1);
    t.refused("often(3, 0)", x.often(3, 0), 2);
    t.refused("often(-1, 0)", x.often(-1, 0), 2);
  }

  private static void gate() {
    PromisesTest t = new PromisesTest(16);
    t.gateIs(patterns("abc"), 0, 1, 0, 0);
    t.gateIs(patterns("a"), 0, 0, 0, 0);
    t.gateIs(docs("a", "b", "c") + patterns("b"), 7, 0, 2, 2);
    t.gateIs(docs("abcd", "abcxbcd", "bcd") + patterns("abcd"), 3, 5, 1, 1);
    t.gateIs(docs("abc", "bcd", "abcd", "bcd") + patterns("abcd"), 4, 5, 4, 0);
    t.gateIs(docs("bcd", "abcd", "bcd") + patterns("abcd"), 2, 3, 2, 0);
    t.gateIs(docs("abc", "abcd", "abc") + patterns("abcd"), 2, 4, 2, 0);
    t.gateIs(docs("xxx", "abc", "xxx", "xxx", "abc") + patterns("abc"), 18, 3, 18, 0);
    t.gateIs(docs("abc", "def", "abcdef") + patterns("abc|def"), 7, 6, 7, 0);
    t.gateIs(docs("abcxdef", "abcdef") + patterns("abc(def)+"), 3, 5, 2, 1);
    t.gateIs(docs("xbcdabc", "ybcdabc", "abcd", "zbcdabc") + patterns("abcd"), 15, 9, 4, 3);
    PatternGate x = t.x;
    t.refused("gate(0, 4)", x.gate(0, 4), 1);
    t.refused("gate(9, -1)", x.gate(9, -1), 1);
    t.refused("gate(1, 0)", x.gate(1, 0), 2);
    t.refused("gate(-1, 0)", x.gate(-1, 0), 2);
    x.put(2, 0, 25);
    t.fine("candidates behind put()", x.gate(0, 0), 11);
    t.fine("fit behind put()", x.gate(0, 2), 0);
  }

  private static void match() {
    PromisesTest t = new PromisesTest(17);
    t.matchIs("b", "abb", 1, 1, 2);
    t.matchIs("b+", "abbcb", 1, 2, 2);
    t.matchIs("b", "aaa", -1, -1, 0);
    t.matchIs("a*", "baa", 0, 0, 3);
    t.matchIs("a*", "aab", 0, 2, 3);
    t.matchIs("a*", "aa", 0, 2, 2);
    t.matchIs("a?", "b", 0, 0, 2);
    t.matchIs("a|ab|abc", "xabcab", 1, 3, 2);
    t.matchIs("ab|abcde|abcd", "abcdabcdx", 0, 4, 2);
    t.matchIs("aa", "aaaaa", 0, 2, 2);
    t.matchIs("(ab|ba)+", "xababbaab", 1, 8, 1);
    t.matchIs(".*", repeat("x", 60), 0, 60, 2);
    t.matchIs(".", repeat("x", 60), 0, 1, 60);
    t.matchIs("(a*)*b", "aaaaaaaaaaaaaaaaaaaaaaaaac", -1, -1, 0);
    t.matchIs("[ac]+.b", "zacacb", 1, 5, 1);
    t.matchIs("(a|b?c)d*e", "bcdde", 0, 5, 1);
    PatternGate x = t.x;
    t.refused("match(0, 0, 3)", x.match(0, 0, 3), 1);
    t.refused("match(9, 9, -1)", x.match(9, 9, -1), 1);
    t.refused("match(1, 0, 0)", x.match(1, 0, 0), 2);
    t.refused("match(0, 1, 0)", x.match(0, 1, 0), 2);
    t.refused("match(-1, 0, 2)", x.match(-1, 0, 2), 2);
    t.refused("match(0, -1, 2)", x.match(0, -1, 2), 2);
  }

  private static void alive() {
    PromisesTest t = new PromisesTest(18);
    PatternGate x = t.x;
    t.loaded(docs("aab", "xyz") + patterns("ab|a.", "(ab)*c", "x(y?z)+", repeat("a", 23) + "z"));
    t.fine("alive(0, 0, 0)", x.alive(0, 0, 0), 1 + 4);
    t.fine("alive(0, 0, 1)", x.alive(0, 0, 1), 1 + 4 + 8);
    t.fine("alive(0, 0, 2)", x.alive(0, 0, 2), 2 + 8);
    t.fine("alive(1, 0, 2)", x.alive(1, 0, 2), 2);
    t.fine("alive(1, 1, 0)", x.alive(1, 1, 0), 0);
    t.fine("alive(2, 1, 0)", x.alive(2, 1, 0), 1);
    t.fine("alive(2, 1, 1)", x.alive(2, 1, 1), 2);
    t.fine("alive(2, 1, 2)", x.alive(2, 1, 2), 4);
    t.fine("alive(3, 1, 2): no z comes first", x.alive(3, 1, 2), 0);
    t.fine("alive(3, 0, 1)", x.alive(3, 0, 1), 1 + 2);
    t.refused("alive(0, 0, 3)", x.alive(0, 0, 3), 5);
    t.refused("alive(9, 0, -1)", x.alive(9, 0, -1), 1);
    t.refused("alive(4, 0, 0)", x.alive(4, 0, 0), 2);
    t.refused("alive(0, 2, 0)", x.alive(0, 2, 0), 2);
    t.refused("alive(-1, 0, 9)", x.alive(-1, 0, 9), 2);
  }

  private static void rarest() {
    PromisesTest t = new PromisesTest(19);
    PatternGate x = t.x;
    t.loaded(docs("abcd", "abc", "xyz", "cde") + patterns("abcde", "bcdx|xyz", "a.", "abc|bcd", "(xyz)+abc"));
    t.fine("abc 2, bcd 1, cde 1", x.rarest(0), triple("bcd"));
    t.fine("cdx is nowhere", x.rarest(1), triple("cdx"));
    t.refused("no triples", x.rarest(2), 5);
    t.fine("abc 2, bcd 1", x.rarest(3), triple("bcd"));
    t.fine("xyz 1, abc 2", x.rarest(4), triple("xyz"));
    t.refused("rarest(5)", x.rarest(5), 2);
    String ten = docs("abcd", "abcd", "abcd", "abcd", "abcd", "abcd", "abcd", "abcd", "abcd", "bcdabc");
    t.loaded(ten + patterns("bcd|abc"));
    t.fine("each in all ten", x.rarest(0), triple("abc"));
    t.refused("rarest(1)", x.rarest(1), 2);
    t.refused("rarest(-1)", x.rarest(-1), 2);
  }

  private static void within() {
    PromisesTest t = new PromisesTest(20);
    PatternGate x = t.x;
    t.loaded(patterns("abcd", "abc", "abc|xyz", "a.", "abc|xyzz", "xyzz"));
    t.fine("within(0, 1)", x.within(0, 1), 1);
    t.fine("within(1, 0)", x.within(1, 0), 0);
    t.fine("within(0, 0)", x.within(0, 0), 1);
    t.fine("within(2, 1): xyz is in none", x.within(2, 1), 0);
    t.fine("within(1, 2)", x.within(1, 2), 1);
    t.fine("within(4, 2)", x.within(4, 2), 1);
    t.fine("within(2, 4)", x.within(2, 4), 0);
    t.fine("within(5, 4)", x.within(5, 4), 1);
    t.fine("within(0, 3)", x.within(0, 3), 1);
    t.fine("within(3, 0)", x.within(3, 0), 0);
    t.fine("within(3, 3)", x.within(3, 3), 1);
    t.refused("within(6, 0)", x.within(6, 0), 2);
    t.refused("within(0, 6)", x.within(0, 6), 2);
    t.refused("within(-1, 0)", x.within(-1, 0), 2);
    t.refused("within(0, -1)", x.within(0, -1), 2);
  }

  private static void put() {
    PromisesTest t = new PromisesTest(21);
    PatternGate x = t.x;
    t.loaded(docs("abc", "abc"));
    t.fine("put(0, 1, z)", x.put(0, 1, 25), 1);
    t.same("texts", t.allTexts(), "azc,abc");
    t.refused("list(abc, 1)", x.list(28, 1), 5);
    t.fine("list(azc, 0)", x.list(triple("azc"), 0), 0);
    t.refused("put(0, 1, z) again", x.put(0, 1, 25), 4);
    t.due("many(4)", x.many(4), 2);
    t.refused("put(0, 3, a)", x.put(0, 3, 0), 5);
    t.refused("put(0, 0, 26)", x.put(0, 0, 26), 1);
    t.refused("put(0, 0, -1)", x.put(0, 0, -1), 1);
    t.refused("put(9, -1, 0)", x.put(9, -1, 0), 1);
    t.refused("put(2, 9, 0)", x.put(2, 9, 0), 2);
    t.refused("put(-1, 0, 0)", x.put(-1, 0, 0), 2);
    t.due("many(4)", x.many(4), 2);
  }

  private static void let() {
    PromisesTest t = new PromisesTest(22);
    PatternGate x = t.x;
    t.loaded(docs("abc", repeat("a", 59)));
    t.fine("let(0, 0, x)", x.let(0, 0, 23), 4);
    t.fine("let(0, 4, y)", x.let(0, 4, 24), 5);
    t.fine("let(0, 2, z)", x.let(0, 2, 25), 6);
    t.same("text", t.text(0), "xazbcy");
    t.refused("let(0, 7, a)", x.let(0, 7, 0), 5);
    t.fine("let(1, 59, b)", x.let(1, 59, 1), 60);
    t.refused("let(1, 0, b)", x.let(1, 0, 1), 6);
    t.refused("let(1, 60, b)", x.let(1, 60, 1), 6);
    t.refused("let(1, 61, b): 5 is ahead of 6", x.let(1, 61, 1), 5);
    t.refused("let(9, -1, 0)", x.let(9, -1, 0), 1);
    t.refused("let(0, 0, 26)", x.let(0, 0, 26), 1);
    t.refused("let(0, 0, -1)", x.let(0, 0, -1), 1);
    t.refused("let(2, 0, 0)", x.let(2, 0, 0), 2);
    t.refused("let(-1, 0, 0)", x.let(-1, 0, 0), 2);
    t.due("many(4)", x.many(4), 5);
    t.fine("lists are kept", x.list(triple("zbc"), 0), 0);
  }

  private static void cut() {
    PromisesTest t = new PromisesTest(23);
    PatternGate x = t.x;
    t.loaded(docs("abcdef", "xyz"));
    t.fine("cut(0, 2, 2)", x.cut(0, 2, 2), 4);
    t.same("text", t.text(0), "abef");
    t.fine("lists are kept", x.list(triple("abe"), 0), 0);
    t.refused("lists are kept", x.list(triple("abc"), 0), 5);
    t.fine("cut(0, 3, 1)", x.cut(0, 3, 1), 3);
    t.fine("cut(0, 0, 2)", x.cut(0, 0, 2), 1);
    t.same("texts", t.allTexts(), "e,xyz");
    t.refused("cut(0, 0, 1): none left", x.cut(0, 0, 1), 6);
    t.refused("cut(1, 0, 3): none left", x.cut(1, 0, 3), 6);
    t.refused("cut(1, 0, 4)", x.cut(1, 0, 4), 5);
    t.refused("cut(1, 2, 2)", x.cut(1, 2, 2), 5);
    t.refused("cut(1, 3, 1)", x.cut(1, 3, 1), 5);
    t.refused("cut(1, max, max)", x.cut(1, Integer.MAX_VALUE, Integer.MAX_VALUE), 5);
    t.refused("cut(1, 1, max)", x.cut(1, 1, Integer.MAX_VALUE), 5);
    t.refused("cut(1, 0, 0)", x.cut(1, 0, 0), 1);
    t.refused("cut(9, 0, -1)", x.cut(9, 0, -1), 1);
    t.refused("cut(9, -1, 1)", x.cut(9, -1, 1), 1);
    t.refused("cut(2, 0, 1)", x.cut(2, 0, 1), 2);
    t.refused("cut(-1, 0, 1)", x.cut(-1, 0, 1), 2);
    t.due("many(4)", x.many(4), 4);
  }

  private static void copy() {
    PromisesTest t = new PromisesTest(24);
    PatternGate x = t.x;
    t.loaded(docs("abcdef", "x"));
    t.fine("copy(0, 1, 3)", x.copy(0, 1, 3), 2);
    t.fine("copy(0, 0, 6)", x.copy(0, 0, 6), 3);
    t.same("texts", t.allTexts(), "abcdef,x,bcd,abcdef");
    t.fine("list(bcd, 1)", x.list(triple("bcd"), 1), 2);
    t.refused("copy(0, 6, 1)", x.copy(0, 6, 1), 5);
    t.refused("copy(0, 3, 4)", x.copy(0, 3, 4), 5);
    t.refused("copy(0, 1, max)", x.copy(0, 1, Integer.MAX_VALUE), 5);
    t.refused("copy(0, 0, 0)", x.copy(0, 0, 0), 1);
    t.refused("copy(9, -1, 1)", x.copy(9, -1, 1), 1);
    t.refused("copy(4, 0, 1)", x.copy(4, 0, 1), 2);
    t.refused("copy(-1, 0, 1)", x.copy(-1, 0, 1), 2);
    for (int i = 4; i < 10; i++) t.fine("copy " + i, x.copy(1, 0, 1), i);
    t.refused("an eleventh", x.copy(1, 0, 1), 3);
    t.refused("3 is ahead of 5", x.copy(1, 5, 1), 3);
    t.refused("2 is ahead of 3", x.copy(10, 0, 1), 2);
    t.refused("1 is ahead of 3", x.copy(0, 0, 0), 1);
  }

  private static void drop() {
    PromisesTest t = new PromisesTest(25);
    PatternGate x = t.x;
    t.loaded(docs("abc", "def", "ghi") + patterns("ghi"));
    t.fine("drop(1)", x.drop(1), 2);
    t.same("texts", t.allTexts(), "abc,ghi");
    t.fine("gate(0, 0)", x.gate(0, 0), 2);
    t.refused("drop(2)", x.drop(2), 2);
    t.refused("drop(-1)", x.drop(-1), 2);
    t.fine("drop(1)", x.drop(1), 1);
    t.fine("drop(0)", x.drop(0), 0);
    t.refused("drop(0)", x.drop(0), 2);
    t.fine("gate(0, 0)", x.gate(0, 0), 0);
    t.due("many(4)", x.many(4), 4);
  }

  private static void forget() {
    PromisesTest t = new PromisesTest(26);
    PatternGate x = t.x;
    t.loaded(docs("abc") + patterns("a", "b+", "c?"));
    t.fine("forget(1)", x.forget(1), 2);
    t.same("patterns", t.signs(0) + " " + t.signs(1), "a c?");
    t.refused("forget(2)", x.forget(2), 2);
    t.refused("forget(-1)", x.forget(-1), 2);
    t.fine("document(0, 2)", x.document(0, 2), 3);
    t.fine("forget(0)", x.forget(0), 1);
    t.same("pattern", t.signs(0), "c?");
    t.fine("forget(0)", x.forget(0), 0);
    t.refused("forget(0)", x.forget(0), 2);
    t.fine("documents stay", x.many(0), 1);
    t.due("many(4)", x.many(4), 4);
  }

  private static void undo() {
    PromisesTest t = new PromisesTest(27);
    PatternGate x = t.x;
    t.loaded(docs("abcdef") + patterns("a"));
    x.put(0, 0, 25);
    x.let(0, 6, 6);
    x.cut(0, 1, 1);
    x.copy(0, 0, 2);
    x.drop(0);
    x.forget(0);
    x.more(t.tell(docs("new")));
    t.same("all acts", t.allTexts(), "zc,new");
    t.fine("undo more()", x.undo(), 7);
    t.same("texts", t.allTexts(), "zc");
    t.fine("undo forget()", x.undo(), 6);
    t.due("many(1)", x.many(1), 1);
    t.fine("undo drop()", x.undo(), 5);
    t.same("texts", t.allTexts(), "zcdefg,zc");
    t.fine("undo copy()", x.undo(), 4);
    t.fine("undo cut()", x.undo(), 3);
    t.same("texts", t.allTexts(), "zbcdefg");
    t.fine("undo let()", x.undo(), 2);
    t.same("texts", t.allTexts(), "zbcdef");
    t.fine("undo put()", x.undo(), 1);
    t.same("texts", t.allTexts(), "abcdef");
    t.fine("list(abc, 0)", x.list(28, 0), 0);
    t.fine("undo load()", x.undo(), 0);
    t.due("many(0)", x.many(0), 0);
    t.refused("undo()", x.undo(), 5);
    t.loaded(docs("a"));
    for (int letter = 1; letter < 12; letter++) x.put(0, 0, letter);
    t.fine("many(4)", x.many(4), 8);
    for (int left = 7; left >= 0; left--) t.fine("undo()", x.undo(), left);
    t.refused("undo() of a ninth", x.undo(), 5);
    t.same("eight undone", t.text(0), "d");
    x.put(0, 0, 3);
    x.put(0, 5, 0);
    t.refused("refused calls are no ACTS", x.undo(), 5);
  }

  private static void mark() {
    PromisesTest t = new PromisesTest(28);
    PatternGate x = t.x;
    t.fine("mark()", x.mark(), 1);
    t.fine("mark()", x.mark(), 2);
    t.fine("mark()", x.mark(), 3);
    t.refused("mark()", x.mark(), 3);
    t.fine("many(5)", x.many(5), 3);
    t.fine("no ACT", x.many(4), 0);
    t.fine("back()", x.back(), 2);
    t.fine("mark()", x.mark(), 3);
    t.loaded(docs("a"));
    t.fine("load() leaves MARKS", x.many(5), 3);
    x.undo();
    t.fine("undo() leaves MARKS", x.many(5), 3);
  }

  private static void back() {
    PromisesTest t = new PromisesTest(29);
    PatternGate x = t.x;
    t.loaded(docs("abc") + patterns("a", "b"));
    x.mark();
    x.put(0, 0, 25);
    x.forget(0);
    x.mark();
    for (int i = 0; i < 12; i++) x.let(0, 0, i);
    x.drop(0);
    t.fine("back()", x.back(), 1);
    t.same("texts", t.allTexts(), "zbc");
    t.same("patterns", t.signs(0), "b");
    t.fine("many(4) as it was", x.many(4), 3);
    t.fine("undo()", x.undo(), 2);
    t.same("patterns", t.signs(0), "a");
    t.fine("back()", x.back(), 0);
    t.same("texts", t.allTexts(), "abc");
    t.due("many(1)", x.many(1), 2);
    t.fine("many(4) as it was", x.many(4), 1);
    t.refused("back()", x.back(), 5);
    x.mark();
    x.undo();
    t.due("many(0)", x.many(0), 0);
    t.fine("back() behind undo()", x.back(), 0);
    t.same("texts", t.allTexts(), "abc");
    t.fine("undo() can be again", x.undo(), 0);
  }

  private static void would() {
    PromisesTest t = new PromisesTest(30);
    PatternGate x = t.x;
    t.loaded(docs("aaaa", "aaab", "ab", "abcde"));
    t.fine("abaa", x.would(0, 1, 1), 1);
    t.fine("aaaa stays", x.would(0, 1, 0), 0);
    t.fine("aaaa of aaab", x.would(1, 3, 0), -1);
    t.fine("no triples", x.would(2, 0, 5), 0);
    t.fine("abzde", x.would(3, 2, 25), 0);
    t.refused("would(0, 4, 0)", x.would(0, 4, 0), 5);
    t.refused("would(0, 0, 26)", x.would(0, 0, 26), 1);
    t.refused("would(9, 0, -1)", x.would(9, 0, -1), 1);
    t.refused("would(9, -1, 0)", x.would(9, -1, 0), 1);
    t.refused("would(4, 0, 0)", x.would(4, 0, 0), 2);
    t.refused("would(-1, 0, 0)", x.would(-1, 0, 0), 2);
    t.same("nothing changed", t.allTexts(), "aaaa,aaab,ab,abcde");
    t.due("many(4)", x.many(4), 1);
  }

  private static void best() {
    PromisesTest t = new PromisesTest(31);
    PatternGate x = t.x;
    t.loaded(docs("xbc", "zzz"));
    t.fine("no patterns", x.best(0, 0), 0);
    x.more(t.tell(patterns("abc", "qbc", "qb", "b[mn]", "nc", "y*")));
    t.fine("qbc and qb", x.best(0, 0), 16);
    t.fine("nc", x.best(0, 1), 13);
    t.fine("b[mn]: m is the least", x.best(0, 2), 12);
    t.fine("none but y*", x.best(1, 1), 0);
    x.put(0, 0, 16);
    t.fine("the letter that stands there", x.best(0, 0), 16);
    t.refused("best(0, 3)", x.best(0, 3), 5);
    t.refused("best(9, -1)", x.best(9, -1), 1);
    t.refused("best(2, 0)", x.best(2, 0), 2);
    t.refused("best(-1, 0)", x.best(-1, 0), 2);
    t.same("nothing changed", t.allTexts(), "qbc,zzz");
  }
}
