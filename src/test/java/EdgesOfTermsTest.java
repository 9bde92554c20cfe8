/** "What it is" and "Terms": each sentence that names a boundary case has a test of its own. */
public final class EdgesOfTermsTest extends Checks {
  private EdgesOfTermsTest() {
    super("Terms");
  }

  public static void main(String[] args) {
    EdgesOfTermsTest t = new EdgesOfTermsTest();
    t.none();
    t.keptThroughAllEdits();
    t.lastOf512Calls();
    t.letters();
    t.tenDocuments();
    t.eightPatterns();
    t.numberedLess();
    t.lettersOfADocument();
    t.triples();
    t.lists();
    t.branchesAndItems();
    t.anyNumberOfTimes();
    t.atoms();
    t.spots();
    t.nested();
    t.whatAPatternCanBe();
    t.bytesOfABook();
    t.blanks();
    t.words();
    t.lines();
    t.firstFault();
    t.noToken();
    t.byteInADocument();
    t.byteInAPattern();
    t.byteBehindAnAtom();
    t.endInAQuote();
    t.tokenThatCantStand();
    t.endOfALine();
    t.eleventhAndNinth();
    t.tooManyLetters();
    t.letterTwice();
    t.tooManySpots();
    t.tooDeep();
    t.acts();
    t.noActs();
    t.latestEight();
    t.threeMarks();
    t.takenBack();
    end("EdgesOfTermsTest");
  }

  // ---- what it is

  private void none() {
    sentence("The constants: NONE = -1: None.");
    due("NONE", PatternGate.NONE, -1);
    due("a call that gives it", x.many(6), PatternGate.NONE);
  }

  /** LISTS, GATES and counts, of an object whose DOCUMENTS have a to d alone. */
  private String allLists() {
    StringBuilder all = new StringBuilder();
    for (int what = 0; what < 4; what++) all.append(' ').append(x.many(what));
    for (int t = 0; t < 64; t++) {
      int triple = t / 16 * 676 + t / 4 % 4 * 26 + t % 4;
      int document = x.list(triple, 0);
      for (int i = 1; document >= 0; i++) {
        all.append(' ').append(spelled(triple)).append(document);
        document = x.list(triple, i);
      }
    }
    int patterns = x.many(1);
    for (int p = 0; p < patterns; p++) {
      for (int what = 0; what < 4; what++) all.append(' ').append(x.gate(p, what));
      all.append(' ').append(x.rarest(p));
    }
    return all.toString();
  }

  private void edit(int which) {
    switch (which) {
      case 0 -> loaded(docs("abcabd", "bcdabc", "aaa") + patterns("abc", "bcd|aaa", "a+b?"));
      case 1 -> x.put(0, 2, 3);
      case 2 -> x.let(0, 2, 2);
      case 3 -> x.cut(1, 1, 2);
      case 4 -> x.mark();
      case 5 -> x.copy(0, 1, 4);
      case 6 -> x.drop(0);
      case 7 -> x.forget(1);
      case 8 -> x.more(tell(docs("abcd", "bcda") + patterns("dab")));
      case 9, 10, 11 -> x.undo();
      case 12 -> x.cut(2, 0, 2);
      case 13 -> x.back();
      default -> x.load(tell(docs("bcd")));
    }
  }

  private void keptThroughAllEdits() {
    sentence("lists of documents by three letters, kept through all edits, gone through by leaps;");
    for (int last = 0; last <= 14; last++) {
      x = new PatternGate();
      for (int which = 0; which <= last; which++) edit(which);
      String edited = allLists();
      String book = docs(allTexts().split(",")) + (x.many(1) == 0 ? "" : patterns(allSigns().split(",")));
      x = new PatternGate();
      loaded(book);
      same("what there is behind edit " + last, edited, allLists());
    }
  }

  private void lastOf512Calls() {
    sentence("An object is used for at most 512 calls after it has been made");
    x.feed(0x646f6322, 0x61223b00, 0, 0, 0);
    x.load(7);
    for (int call = 3; call <= 502; call++) due("put", x.put(0, 0, call % 2), (call + 1) % 2 == 1 ? 1 : 0);
    due("call 503", x.many(4), 8);
    for (int left = 7; left >= 0; left--) due("undo()", x.undo(), left);
    due("call 512", x.letter(0, 0), 494 % 2);
  }

  // ---- DOCUMENTS, PATTERNS, LISTS

  private void letters() {
    sentence("LETTERS a .. z (0 to 25).");
    loaded(docs("az"));
    fine("a", x.letter(0, 0), 0);
    fine("z", x.letter(0, 1), 25);
    fine("the last one is put", x.put(0, 0, 25), 0);
    fine("the first one is put", x.put(0, 1, 0), 25);
    refused("one behind the last", x.put(0, 0, 26), 1);
    refused("one ahead of the first", x.put(0, 0, -1), 1);
    faulty("doc \"" + (char) ('a' - 1), 1, 5);
    faulty("doc \"" + (char) ('z' + 1), 1, 5);
    faulty("" + (char) ('a' - 1), 1, 0);
    faulty("" + (char) ('z' + 1), 1, 0);
  }

  private void tenDocuments() {
    sentence("DOCUMENTS, at most 10,");
    fine("ten are told", loaded(docsOf(10)), 10);
    fine("the first", x.letter(0, 0), 0);
    fine("the tenth", x.letter(9, 0), 9);
    refused("an eleventh is not there", x.letter(10, 0), 2);
    refused("none comes behind", x.more(tell(docs("k"))), 9);
    refused("none is copied", x.copy(0, 0, 1), 3);
    faulty(docsOf(11), 3, 80);
    same("ten are left", allTexts(), "a,b,c,d,e,f,g,h,i,j");
    x.drop(0);
    fine("the tenth is copied", x.copy(0, 0, 1), 9);
    x.drop(0);
    fine("the tenth is told behind", x.more(tell(docs("k"))), 1);
  }

  private void eightPatterns() {
    sentence("PATTERNS, at most 8,");
    fine("eight are told", loaded(patternsOf(8)), 0);
    due("eight are there", x.many(1), 8);
    fine("the eighth", x.sign(7, 0), 'h');
    refused("a ninth is not there", x.sign(8, 0), 2);
    refused("none comes behind", x.more(tell(patterns("i"))), 9);
    faulty(patternsOf(9), 3, 96);
    same("eight are left", allSigns(), "a,b,c,d,e,f,g,h");
    x.forget(7);
    fine("the eighth is told behind", x.more(tell(patterns("i"))), 1);
    same("behind the others", allSigns(), "a,b,c,d,e,f,g,i");
  }

  private void numberedLess() {
    sentence("each numbered from 0 on as they came (one that goes: those behind it are numbered less)");
    loaded(docs("a") + patterns("p") + docs("b", "c", "d") + patterns("q", "r", "s"));
    same("as they came", allTexts() + " " + allSigns(), "a,b,c,d p,q,r,s");
    x.drop(0);
    x.forget(0);
    same("the first goes", allTexts() + " " + allSigns(), "b,c,d q,r,s");
    x.drop(1);
    x.forget(1);
    same("one in the middle goes", allTexts() + " " + allSigns(), "b,d q,s");
    x.drop(1);
    x.forget(1);
    same("the last goes", allTexts() + " " + allSigns(), "b q");
    x.drop(0);
    x.forget(0);
    same("the only one goes", allTexts() + " " + allSigns(), " ");
    x.more(tell(docs("z") + patterns("y")));
    same("from 0 on again", allTexts() + " " + allSigns(), "z y");
  }

  private void lettersOfADocument() {
    sentence("A DOCUMENT has 1 to 60 LETTERS, PLACES from 0 on.");
    fine("1 and 60", loaded(docs("a", repeat("b", 59) + "c")), 2);
    fine("one", x.document(0, 0), 1);
    fine("sixty", x.document(1, 0), 60);
    fine("the first place", x.letter(1, 0), 1);
    fine("the last place", x.letter(1, 59), 2);
    refused("no place behind the last", x.letter(1, 60), 5);
    refused("no place ahead of the first", x.letter(1, -1), 1);
    faulty("doc \"\";", 1, 5);
    faulty(docs(repeat("b", 61)), 4, 65);
    refused("not fewer by cut()", x.cut(0, 0, 1), 6);
    refused("not more by let()", x.let(1, 0, 0), 6);
    due("nothing came of it", x.many(2), 61);
  }

  private void triples() {
    sentence("A TRIPLE: three LETTERS, as a number: the first times 676, the second times 26, the third, together.");
    loaded(docs("aaa", "aab", "aba", "baa", "zzz", "bcd"));
    fine("aaa, the least", x.list(0, 0), 0);
    fine("aab", x.list(1, 0), 1);
    fine("aba", x.list(26, 0), 2);
    fine("baa", x.list(676, 0), 3);
    fine("zzz, the most", x.list(17575, 0), 4);
    fine("bcd", x.list(676 + 2 * 26 + 3, 0), 5);
  }

  private void lists() {
    sentence("LIST of a TRIPLE: the DOCUMENTS in which it stands somewhere side by side.");
    loaded(docs("abc", "ab", "abcxx", "xxabc", "abxc", "abcabc", "cba", "xabcx", "c", "bc"));
    int[] with = {0, 2, 3, 5, 7};
    for (int i = 0; i < with.length; i++) fine("list(abc, " + i + ")", x.list(28, i), with[i]);
    refused("none more", x.list(28, 5), 5);
    refused("the LETTERS of two DOCUMENTS are not side by side", x.list(triple("cab") + 1, 0), 5);
    fine("cab stands within one", x.list(triple("cab"), 0), 5);
    refused("and in it alone", x.list(triple("cab"), 1), 5);
  }

  // ---- PATTERNS

  private void branchesAndItems() {
    sentence("A PATTERN: BRANCH { | BRANCH}. BRANCH: ITEM {ITEM}. ITEM: ATOM [SIGN]. SIGN: * + or ?.");
    fine("one BRANCH of one ITEM", loaded(patterns("a")), 0);
    fine("eight BRANCHES", loaded(patterns("a|b|c|d|e|f|g|h")), 0);
    fine("one SIGN each", loaded(patterns("a*b+c?", "(a)*[b]+.?")), 0);
    faultyPattern("\";", 1, 0);
    faultyPattern("|a\";", 1, 0);
    faultyPattern("a|\";", 1, 2);
    faultyPattern("a||b\";", 1, 2);
    faultyPattern("a|*\";", 1, 2);
    faultyPattern("+\";", 1, 0);
    faultyPattern("a**\";", 1, 2);
    faultyPattern("a?+\";", 1, 2);
    faultyPattern("(a)+*\";", 1, 4);
  }

  private void anyNumberOfTimes() {
    sentence("({ } any number of times, [ ] here once or not, but for those of an ATOM.)");
    fine("no more BRANCH, one, many", loaded(patterns("a", "a|b", repeat("a|", 23) + "b")), 0);
    fine("as many as there are SPOTS", x.pattern(2, 1), 24);
    fine("no more ITEM, one, many", loaded(patterns("a", "ab", repeat("a", 24))), 0);
    fine("no SIGN, one", loaded(patterns("a", "a*", "a+b", "ab?")), 0);
    fine("no LINE, one", loaded("") + loaded(docs("a")), 1);
    faultyPattern("a*+\";", 1, 2);
    faultyPattern("{a}\";", 1, 0);
  }

  private void atoms() {
    sentence("ATOM: a small letter, or . or [ letters ] (1 to 26, none twice), or ( PATTERN ).");
    fine("each kind", loaded(patterns("a.[b](c)", "[z]", "[" + SMALL + "]", "((a|b)|c)")), 0);
    fine("[ ] with all letters is one SPOT", x.pattern(2, 1), 1);
    faultyPattern("[]\";", 1, 1);
    faultyPattern("[" + SMALL + "a]\";", 4, 27);
    faultyPattern("[zz]\";", 4, 2);
    faultyPattern("()\";", 1, 1);
    faultyPattern("(a|)\";", 1, 3);
    faultyPattern("(|a)\";", 1, 1);
    faultyPattern("(*)\";", 1, 1);
  }

  private void spots() {
    sentence("Letters, . and [ ] are SPOTS, numbered from 0 on as they stand, at most 24;");
    fine("24 of them", loaded(docs(repeat("a", 24)) + patterns("(.[ab]a?)" + repeat("a", 20) + "[abc]")), 1);
    fine("as many", x.pattern(0, 1), 24);
    fine("the first is number 0", x.alive(0, 0, 0), 1);
    fine("then 1, or 0 again", x.alive(0, 0, 1), 3);
    fine("the last is number 23", x.alive(0, 0, 23) >>> 23, 1);
    fine("not sooner", x.alive(0, 0, 21) >>> 23, 0);
    faultyPattern("(.[ab]a?)" + repeat("a", 21) + "[abc]\";", 4, 30);
    x = new PatternGate();
    loaded(docs("ab") + patterns("ab", "a|b", "[ab]"));
    fine("from 0 on in each PATTERN", x.alive(1, 0, 1), 2);
    fine("one is nothing to the next one", x.match(1, 0, 1), 1);
    fine("nor are its letters", x.alive(2, 0, 1), 1);
  }

  private void nested() {
    sentence("( within one another at most 5 deep.");
    fine("5 deep", loaded(patterns("(((((a)))))", "(a)(b)(c)(d)(e)(f)", "((((a)(b)(c(d)))))", "(((((a)))))(((((b)))))")), 0);
    due("all are told", x.many(1), 4);
    faultyPattern("((((((a))))))\";", 4, 5);
    faultyPattern("(((((a)((", 4, 8);
    faultyPattern("(((((a))))(((((", 4, 14);
    becomes("((a)b)c", "abc", "abc");
    becomes("x((a|b)c|d)e", "xace,xbce,xde", "ace xac|bce xbc|xde");
    becomes("(((((a)b)c)d)e)f", "abcdef", "abc bcd cde def");
    becomes("a(b(c(d(e(f)))))", "abcdef", "abc bcd cde def");
    becomes("(a(b(c(d(e)f)g)h))", "abcdefgh", "abc bcd cde def efg fgh");
  }

  private void fitsOnly(String pattern, String fitting, String others) {
    x = new PatternGate();
    String[] all = (fitting + "," + others).split(",");
    int many = fitting.split(",").length;
    loaded(docs(all) + patterns("x" + pattern + "y"));
    fine("which " + pattern + " can be", x.gate(0, 2), (1 << many) - 1);
  }

  private void whatAPatternCanBe() {
    sentence("a letter that one, . any one, [ ] one of these; one ITEM behind the other, one BRANCH of several;"
        + " * what it has any number of times, + once or more often, ? once or not.");
    fitsOnly("b", "xby", "xay,xcy,xy,xbby");
    fitsOnly(".", "xay,xzy", "xy,xaay");
    fitsOnly("[bd]", "xby,xdy", "xay,xcy,xey,xy,xbdy");
    fitsOnly("ab", "xaby", "xay,xby,xbay");
    fitsOnly("(a|bc)", "xay,xbcy", "xby,xcy,xabcy,xy");
    fitsOnly("a*", "xy,xay,xaay", "xby,xaby");
    fitsOnly("a+", "xay,xaay,xaaay", "xy,xby,xaby");
    fitsOnly("a?", "xy,xay", "xaay,xby");
    fitsOnly("(ab)*", "xy,xaby,xababy", "xay,xabay");
    fitsOnly("(ab)+", "xaby,xababy", "xy,xay,xabay");
    fitsOnly("(ab)?", "xy,xaby", "xay,xababy");
    fitsOnly("(a?)+", "xy,xay,xaay", "xby");
    fitsOnly("(a|b*)c", "xcy,xacy,xbbcy", "xabcy,xaacy");
  }

  // ---- the BOOK

  private void bytesOfABook() {
    sentence("A BOOK is told by at most 900 bytes.");
    String book = docs(repeat("a", 60)) + repeat(" ", 900 - 67 - 8) + docs("z");
    due("so many bytes", tell(book), 900);
    due("not one more", x.feed(0x20202020, 0x20202020, 0x20202020, 0x20202020, 0x20202020), -1);
    fine("all of them", x.load(900), 2);
    fine("what stands at the end", x.letter(1, 0), 25);
    fine("no byte at all", x.load(0), 0);
  }

  private void blanks() {
    sentence("TOKENS, between them blanks (10, 32):");
    fine("none", loaded("doc\"a\";pattern\"a\";doc\"b\";"), 2);
    fine("one", loaded("doc \"a\" ; pattern\n\"a\"\n;\ndoc \"b\" ;"), 2);
    fine("several", loaded(" \n doc \n\n \"a\"\n \n;  "), 1);
    fine("no TOKENS", loaded("  \n\n  "), 0);
    for (int sign : new int[] {0, 9, 11, 13, 31, 33, 160}) faulty("doc \"a\";" + (char) sign, 1, 8);
    faulty("doc \"a b\";", 1, 6);
    faulty("doc \"a\nb\";", 1, 6);
    faulty("doc \" a\";", 1, 5);
    faulty("doc \"a \";", 1, 6);
    faulty("do c \"a\";", 2, 0);
  }

  private void words() {
    sentence("WORDS (small letters, as far as they go), QUOTES (\", then what stands in it, then \"), the SIGN ;");
    faulty("docpattern \"a\";", 2, 0);
    faulty("docdoc", 2, 0);
    faulty("doca\"a\";", 2, 0);
    faulty("do", 2, 0);
    faulty("patter\"a\";", 2, 0);
    faulty("d", 2, 0);
    fine("a QUOTE ends it", loaded("doc\"a\";"), 1);
    fine("a ; ends a LINE", loaded("doc\"a\";doc\"a\";"), 2);
    tell("docdoc");
    refused("what stands behind n bytes is not of the WORD", x.load(3), 9);
    due("the end is missed", x.fault(1), 3);
  }

  private void lines() {
    sentence("BOOK: {LINE}. LINE: doc QUOTE ; (1 to 60 small letters) or pattern QUOTE ; (a PATTERN without blanks).");
    fine("no LINE", loaded(""), 0);
    due("no PATTERNS", x.many(1), 0);
    fine("one", loaded("doc\"a\";"), 1);
    fine("all that there can be", loaded(docsOf(10) + patternsOf(8)), 10);
    due("PATTERNS, too", x.many(1), 8);
    faultyPattern("a b\";", 1, 1);
    faultyPattern("a\n\";", 1, 1);
    faultyPattern(" a\";", 1, 0);
    faultyPattern("[a b]\";", 1, 2);
    faultyPattern("a| b\";", 1, 2);
  }

  // ---- FAULTS

  private void firstFault() {
    sentence("FAULTS, the first along the bytes (of one place the least kind):");
    faulty("5 word doc \"A\"", 1, 0);
    faulty("word 5 \"", 2, 0);
    faulty(docsOf(10) + "doc 5", 3, 80);
    faulty("doc \"" + repeat("a", 61) + "5", 4, 65);
    faultyPattern("[aa5", 4, 2);
    faultyPattern("[a5a", 1, 2);
    faultyPattern(repeat("a", 24) + "[aa5", 4, 24);
    faultyPattern("((((((5", 4, 5);
    // two kinds at one place
    faulty(docsOf(10) + "doc \"a\" doc", 3, 80);
    faulty(docsOf(9) + "doc \"a\" doc", 2, 80);
    faulty(docsOf(10) + "docs", 2, 80);
    faulty(docsOf(10) + "doc", 3, 80);
    faulty(patternsOf(8) + "pattern", 3, 96);
    faulty("doc \"" + repeat("a", 60) + "A", 1, 65);
    faultyPattern(repeat("a", 24) + "A", 1, 24);
    faultyPattern("(((((a(", 4, 6);
    faultyPattern("[aA", 1, 2);
  }

  /**
   * Tells each of the 256 bytes behind a text, and then no more. Where it can stand, the end is the
   * FAULT: in a QUOTE of kind 1, behind one of kind 2. Else it is the FAULT itself: some of kind 2
   * or 4, all others of kind 1.
   */
  private void eachByte(String ahead, String inQuote, String behindQuote, String two, String four) {
    int place = ahead.length();
    for (char sign = 0; sign < 256; sign++) {
      if (sign % 25 == 0) x = new PatternGate();
      if (inQuote.indexOf(sign) >= 0) faulty(ahead + sign, 1, place + 1);
      else if (behindQuote.indexOf(sign) >= 0) faulty(ahead + sign, 2, place + 1);
      else if (two.indexOf(sign) >= 0) faulty(ahead + sign, 2, place);
      else if (four.indexOf(sign) >= 0) faulty(ahead + sign, 4, place);
      else faulty(ahead + sign, 1, place);
    }
  }

  private void noToken() {
    sentence("1 no TOKEN begins so;");
    for (char sign = 0; sign < 256; sign++) {
      x = new PatternGate();
      if (sign == ' ' || sign == '\n') fine("a blank", loaded("" + sign), 0);
      else faulty("" + sign, (SMALL + "\";").indexOf(sign) >= 0 ? 2 : 1, 0);
    }
    eachByte("doc ", "\"", " \n", SMALL + ";", "");
    eachByte("pattern\n", "\"", " \n", SMALL + ";", "");
    for (char sign = 0; sign < 256; sign++) {
      x = new PatternGate();
      String book = "doc \"a\"" + sign;
      if (sign == ';') fine("the ; that is due", loaded(book), 1);
      else if (sign == ' ' || sign == '\n') faulty(book, 2, 8);
      else faulty(book, (SMALL + "\"").indexOf(sign) >= 0 ? 2 : 1, 7);
    }
  }

  private void byteInADocument() {
    sentence("in a QUOTE a byte that can't stand there");
    eachByte("doc \"", SMALL, "", "", "");
    eachByte("doc \"a", SMALL, "\"", "", "");
    eachByte("doc \"" + repeat("a", 59), SMALL, "\"", "", "");
    eachByte("doc \"" + repeat("a", 60), "", "\"", "", SMALL);
  }

  private void byteInAPattern() {
    sentence("in a QUOTE a byte that can't stand there");
    String atom = SMALL + ".[(";
    for (String ahead : new String[] {"", "a|", "a*|", "(", "((((", "(a|", "a(", "[a]("}) {
      eachByte("pattern \"" + ahead, atom, "", "", "");
    }
    eachByte("pattern \"(((((", SMALL + ".[", "", "", "(");
    eachByte("pattern \"[", SMALL, "", "", "");
    eachByte("pattern \"[ac", SMALL.replace("a", "").replace("c", "") + "]", "", "", "ac");
    eachByte("pattern \"[" + SMALL, "]", "", "", SMALL);
    for (String ahead : new String[] {"(a", "(.", "([a]", "((a)", "(a|b"}) {
      eachByte("pattern \"" + ahead, atom + ")|*+?", "", "", "");
    }
    eachByte("pattern \"(a*", atom + ")|", "", "", "");
    eachByte("pattern \"((a)?", atom + ")|", "", "", "");
    eachByte("pattern \"(" + repeat("a", 24), "()|*+?", "", "", SMALL + ".[");
    eachByte("pattern \"" + repeat("a", 24) + "(", "(", "", "", SMALL + ".[");
  }

  private void byteBehindAnAtom() {
    sentence("in a QUOTE a byte that can't stand there");
    String atom = SMALL + ".[(";
    for (String ahead : new String[] {"a", ".", "[a]", "(a)", "a|b", "(a)b", "(a*)", repeat("a", 23)}) {
      eachByte("pattern \"" + ahead, atom + "|*+?", "\"", "", "");
    }
    for (String ahead : new String[] {"a*", "a+", "a?", "(a)*", ".+", "[a]?"}) {
      eachByte("pattern \"" + ahead, atom + "|", "\"", "", "");
    }
    eachByte("pattern \"" + repeat("a", 24), "(|*+?", "\"", "", SMALL + ".[");
  }

  private void endInAQuote() {
    sentence("(the end of all, too: how many bytes there are)");
    faulty("doc \"", 1, 5);
    faulty("doc \"a", 1, 6);
    faulty("doc \"" + repeat("a", 60), 1, 65);
    faultyPattern("", 1, 0);
    faultyPattern("a", 1, 1);
    faultyPattern("a|", 1, 2);
    faultyPattern("a*", 1, 2);
    faultyPattern("(", 1, 1);
    faultyPattern("(a)", 1, 3);
    faultyPattern("[", 1, 1);
    faultyPattern("[a", 1, 2);
    faultyPattern("[a]", 1, 3);
    tell("doc \"abc\";");
    refused("n bytes alone count", x.load(7), 9);
    due("its kind", x.fault(0), 1);
    due("its place", x.fault(1), 7);
    String full = docs(repeat("a", 60)) + repeat(" ", 900 - 67 - 5) + "doc \"";
    faulty(full, 1, 900);
  }

  private void tokenThatCantStand() {
    sentence("2 a TOKEN that can't stand there (a WORD that is none of doc, pattern, the end, too).");
    faulty("\"a\";", 2, 0);
    faulty("\"", 2, 0);
    faulty(";", 2, 0);
    faulty("doc;", 2, 3);
    faulty("doc doc", 2, 4);
    faulty("doc pattern", 2, 4);
    faulty("doc \"a\" \"b\"", 2, 8);
    faulty("doc \"a\"\"b\"", 2, 7);
    faulty("doc \"a\" doc", 2, 8);
    faulty("pattern \"a\"pattern", 2, 11);
    faulty("doc \"a\";;", 2, 8);
    faulty("doc \"a\";\"a\"", 2, 8);
    faulty("docs \"a\";", 2, 0);
    faulty("doc \"a\"; patterns", 2, 9);
    for (String word : new String[] {"aoc", "eoc", "dnc", "dpc", "dob", "dod", "do", "oc", "ddoc", "pattor",
        "pattern".substring(1), "patternn", "qattern", "patterm"}) {
      faulty(" " + word + " \"a\";", 2, 1);
    }
  }

  private void endOfALine() {
    sentence("2 a TOKEN that can't stand there (a WORD that is none of doc, pattern, the end, too).");
    faulty("doc", 2, 3);
    faulty("pattern", 2, 7);
    faulty("doc \n", 2, 5);
    faulty("doc \"a\"", 2, 7);
    faulty("pattern \"a\" ", 2, 12);
    faulty("doc \"a\"; doc", 2, 12);
    fine("the end behind a ; is none", loaded("doc \"a\";"), 1);
    fine("nor behind blanks", loaded("doc \"a\"; \n"), 1);
    fine("nor at once", loaded(""), 0);
    faulty(docsOf(10) + repeat(" ", 816) + "doc", 3, 896);
    faulty(docs("a") + repeat(" ", 889) + "doc", 2, 900);
  }

  private void eleventhAndNinth() {
    sentence("3 an eleventh DOCUMENT, a ninth PATTERN (at that WORD).");
    faulty(docsOf(11), 3, 80);
    faulty(docsOf(10) + " \n doc \"A", 3, 83);
    faulty(patternsOf(9), 3, 96);
    faulty(patternsOf(8) + docsOf(10) + "  pattern \"", 3, 178);
    fine("ten and eight", loaded(docsOf(10) + patternsOf(8)), 10);
    fine("load() counts from none", loaded(docsOf(10) + patternsOf(8)), 10);
    refused("more() counts what there is", x.more(tell("\n" + docs("a"))), 9);
    due("its kind", x.fault(0), 3);
    due("its place", x.fault(1), 1);
    refused("PATTERNS, too", x.more(tell("  " + patterns("a"))), 9);
    due("its kind", x.fault(0), 3);
    due("its place", x.fault(1), 2);
    x.drop(0);
    x.drop(0);
    refused("the ninth and tenth can come, an eleventh not", x.more(tell(docsOf(3))), 9);
    due("its place", x.fault(1), 16);
    fine("two can come", x.more(tell(docsOf(2))), 2);
  }

  private void tooManyLetters() {
    sentence("4 a 61st letter;");
    faulty(docs(repeat("a", 61)), 4, 65);
    faulty(docs(repeat("z", 100)), 4, 65);
    faulty(docs(repeat("a", 60), repeat("b", 61)), 4, 132);
    fine("a 60th", loaded(docs(repeat("a", 60))), 1);
  }

  private void letterTwice() {
    sentence("a letter that [ ] has;");
    faultyPattern("[aa]\";", 4, 2);
    faultyPattern("[zyxz]\";", 4, 4);
    faultyPattern("a[bcb", 4, 4);
    faultyPattern("[" + SMALL + "m", 4, 27);
    fine("in another [ ]", loaded(patterns("[ab][ba]a")), 0);
  }

  private void tooManySpots() {
    sentence("a 25th SPOT (at its first byte);");
    faultyPattern(repeat("a", 25) + "\";", 4, 24);
    faultyPattern(repeat("a", 24) + ".\";", 4, 24);
    faultyPattern(repeat("a", 24) + "[bc]\";", 4, 24);
    faultyPattern(repeat("[ab]", 25) + "\";", 4, 96);
    faultyPattern(repeat(".*", 24) + "|(.)\";", 4, 50);
    fine("24 of each kind, anew in each PATTERN", loaded(patterns(repeat("a", 24), repeat(".", 24),
        repeat("[ab]", 24), repeat("(a)", 24), repeat("a*", 24))), 0);
    due("all are told", x.many(1), 5);
  }

  private void tooDeep() {
    sentence("a sixth ( within one another (at it).");
    faultyPattern("((((((a))))))\";", 4, 5);
    faultyPattern("a(b(c(d(e(f(g", 4, 11);
    faultyPattern("(((((a)))))((((((", 4, 16);
    fine("a fifth", loaded(patterns("a(b(c(d(e(f)))))", "(((((a)))))")), 0);
    fine("anew in each PATTERN", loaded(patterns("(((((a)))))", "(((((a)))))")), 0);
  }

  // ---- ACTS, MARKS

  private void begin() {
    x = new PatternGate();
    loaded(docs("abcdef", "xyz") + patterns("abc", "b?"));
  }

  private void acts() {
    sentence("ACTS: load(), more(), put(), let(), cut(), copy(), drop(), forget() with STATUS 0;");
    begin();
    due("load() is one", x.many(4), 1);
    x.more(tell(docs("a")));
    due("more() is one", x.many(4), 2);
    x.put(0, 0, 25);
    due("put() is one", x.many(4), 3);
    x.let(0, 0, 25);
    due("let() is one", x.many(4), 4);
    x.cut(0, 0, 1);
    due("cut() is one", x.many(4), 5);
    x.copy(0, 0, 1);
    due("copy() is one", x.many(4), 6);
    x.drop(0);
    due("drop() is one", x.many(4), 7);
    x.forget(0);
    due("forget() is one", x.many(4), 8);
    begin();
    x.load(0);
    due("load() of nothing is one", x.many(4), 2);
    x.more(0);
    due("more() of nothing is one", x.many(4), 3);
  }

  private void noActs() {
    sentence("ACTS: load(), more(), put(), let(), cut(), copy(), drop(), forget() with STATUS 0;");
    begin();
    refused("load(), 1", x.load(1), 1);
    refused("load(), 9", x.load(tell("5")), 9);
    refused("more(), 1", x.more(1), 1);
    refused("more(), 9", x.more(tell("5")), 9);
    refused("put(), 4", x.put(0, 0, 0), 4);
    refused("put(), 5", x.put(0, 6, 0), 5);
    refused("let(), 5", x.let(0, 7, 0), 5);
    refused("cut(), 6", x.cut(0, 0, 6), 6);
    refused("copy(), 5", x.copy(0, 6, 1), 5);
    refused("drop(), 2", x.drop(2), 2);
    refused("forget(), 2", x.forget(2), 2);
    x.mark();
    x.back();
    x.would(0, 0, 5);
    x.best(0, 0);
    x.gate(0, 0);
    x.feed(0, 0, 0, 0, 0);
    due("none of these is one", x.many(4), 1);
    fine("load() is undone", x.undo(), 0);
    due("nothing is there", x.many(0), 0);
  }

  private void latestEight() {
    sentence("the latest 8 can be undone.");
    loaded(docs("a"));
    for (int letter = 1; letter <= 6; letter++) x.put(0, 0, letter);
    due("7 of 7", x.many(4), 7);
    x.put(0, 0, 7);
    due("8 of 8", x.many(4), 8);
    x.put(0, 0, 8);
    due("8 of 9", x.many(4), 8);
    x.put(0, 0, 9);
    due("8 of 10", x.many(4), 8);
    for (int left = 7; left >= 0; left--) {
      fine("undo()", x.undo(), left);
      fine("what there was", x.letter(0, 0), left + 1);
      due("many(4)", x.many(4), left);
    }
    refused("a ninth", x.undo(), 5);
    fine("it stays", x.letter(0, 0), 1);
    x.put(0, 0, 20);
    due("a new one can be", x.many(4), 1);
    fine("and is", x.undo(), 0);
    fine("to where it was", x.letter(0, 0), 1);
  }

  private void threeMarks() {
    sentence("MARKS, at most 3:");
    for (int many = 1; many <= 3; many++) fine("mark()", x.mark(), many);
    refused("a fourth", x.mark(), 3);
    due("three are left", x.many(5), 3);
    x.back();
    fine("a third again", x.mark(), 3);
    for (int left = 2; left >= 0; left--) fine("back()", x.back(), left);
    refused("none is left", x.back(), 5);
  }

  private void takenBack() {
    sentence("all is taken back to the latest one, which is gone then (no ACT).");
    begin();
    x.mark();
    x.put(0, 0, 25);
    x.mark();
    x.drop(1);
    x.forget(1);
    x.mark();
    for (int i = 0; i < 10; i++) x.let(0, 0, i);
    fine("to the third", x.back(), 2);
    same("DOCUMENTS and PATTERNS", allTexts() + " " + allSigns(), "zbcdef abc");
    due("what can be undone", x.many(4), 4);
    fine("to the second", x.back(), 1);
    same("DOCUMENTS and PATTERNS", allTexts() + " " + allSigns(), "zbcdef,xyz abc,b?");
    due("what can be undone", x.many(4), 2);
    fine("to the first", x.back(), 0);
    same("DOCUMENTS and PATTERNS", allTexts() + " " + allSigns(), "abcdef,xyz abc,b?");
    due("what can be undone", x.many(4), 1);
    fine("the ACT ahead of the MARK is undone", x.undo(), 0);
    due("nothing is there", x.many(0), 0);
    x.mark();
    fine("without an ACT behind the MARK", x.back(), 0);
    due("no ACT", x.many(4), 0);
  }
}
