/** ==== 2. and ==== 3.: each sentence that names a boundary case has a test of its own. */
public final class EdgesOfNeedsTest extends Checks {
  private EdgesOfNeedsTest() {
    super("==== 2.");
  }

  public static void main(String[] args) {
    EdgesOfNeedsTest t = new EdgesOfNeedsTest();
    t.rowsOfExact();
    t.lettersOfARow();
    t.emptyRow();
    t.choicesOfANeed();
    t.choiceWithin();
    t.ofRows();
    t.either();
    t.both();
    t.counted();
    t.emptyChoice();
    t.sets();
    t.anyLetter();
    t.star();
    t.question();
    t.plus();
    t.branchAtFirst();
    t.itemWithoutExact();
    t.itemWithExact();
    t.needOfRowsSoFar();
    t.lastTwoLetters();
    t.exactAlone();
    t.endOfABranch();
    t.exactOfABranch();
    t.depth();
    t.exactOfAPattern();
    t.needOfAPattern();
    t.orderOfRows();
    t.orderOfChoices();
    t.gateWithoutTriples();
    t.gateFromTheFirst();
    t.roundAndRound();
    t.leap();
    t.over();
    t.agrees();
    t.candidate();
    t.ofAllChoices();
    t.fits();
    t.firstMatch();
    t.matches();
    t.alive();
    end("EdgesOfNeedsTest");
  }

  // ---- EXACT and NEED

  private void rowsOfExact() {
    sentence("EXACT is a set of at most 6 rows");
    becomes("a|b|c|d|e|f", "a,b,c,d,e,f", "");
    becomes("a|b|c|d|e|f|g", "none", "");
    becomes("a|b|c|d|e|f|a", "a,b,c,d,e,f", "");
    becomes("[ab][cde]", "ac,ad,ae,bc,bd,be", "");
    becomes("[ab][cdef]", "none", "");
  }

  private void lettersOfARow() {
    sentence("of at most 8 LETTERS each");
    becomes("abcdefgh", "abcdefgh", "abc bcd cde def efg fgh");
    becomes("abcdefghi", "none", "abc bcd cde def efg fgh ghi");
    becomes("abcd(efgh|x)", "abcdefgh,abcdx", "abc bcd cde def efg fgh|abc bcd cdx");
    becomes("abcd(efghi|x)", "none", "abc bcd cde def efg fgh ghi|abc bcd cdx");
    becomes("zzzzzzzz", "zzzzzzzz", "zzz");
    becomes("aaaaaaaa", "aaaaaaaa", "aaa");
  }

  private void emptyRow() {
    sentence("(a row may be empty), or none;");
    becomes("a?", ",a", "");
    fine("two rows", x.pattern(0, 3), 2);
    refused("the empty one ends at once", x.exact(0, 0, 0), 5);
    fine("the other one does not", x.exact(0, 1, 0), 0);
    becomes("a*", "none", "");
    fine("no rows at all", x.pattern(0, 3), -1);
    refused("not even an empty one", x.exact(0, 0, 0), 5);
  }

  private void choicesOfANeed() {
    sentence("NEED a set of at most 12 CHOICES, each a set of TRIPLES;");
    becomes("[abcdef]xy.|[ghijkl]xy.", "none", "axy|bxy|cxy|dxy|exy|fxy|gxy|hxy|ixy|jxy|kxy|lxy");
    fine("twelve", x.pattern(0, 2), 12);
    fine("the last", x.need(0, 11, 0), triple("lxy"));
    refused("no thirteenth", x.need(0, 12, 0), 5);
    becomes("[abcdef]xy.|[ghijkl]xy.|mxy.", "none", "");
    fine("one empty CHOICE", x.pattern(0, 2), 1);
    refused("which has no TRIPLE", x.need(0, 0, 0), 5);
    becomes("abcabcab", "abcabcab", "abc bca cab");
  }

  private void choiceWithin() {
    sentence("of a CHOICE that has all TRIPLES of another one, that other one alone is left.");
    becomes("abcd|abc", "abc,abcd", "abc");
    becomes("abc|abcd", "abc,abcd", "abc");
    becomes("abcd|bcd", "abcd,bcd", "bcd");
    becomes("xabcy|abc|zabc", "abc,xabcy,zabc", "abc");
    becomes("(abc)+|(abc)+", "none", "abc");
    becomes("abcabc|cabcab", "abcabc,cabcab", "abc bca cab");
    becomes("abcd|bcde", "abcd,bcde", "abc bcd|bcd cde");
    becomes("xbcd|abc|bcde|zabc|bcd", "abc,bcd,bcde,xbcd,zabc", "abc|bcd");
    becomes("(efgh|abcd|ijkl|xyzw|bcd).", "none", "bcd|efg fgh|ijk jkl|xyz yzw");
  }

  private void ofRows() {
    sentence("OF ROWS: a CHOICE for each row: all its TRIPLES side by side.");
    becomes("ab", "ab", "");
    becomes("abc", "abc", "abc");
    becomes("abcd", "abcd", "abc bcd");
    becomes("zab|abc|xy", "abc,xy,zab", "");
    becomes("zab|abc", "abc,zab", "abc|zab");
    becomes("aaaa", "aaaa", "aaa");
    becomes("ababab", "ababab", "aba bab");
    becomes("a?", ",a", "");
  }

  private void either() {
    sentence("EITHER: all CHOICES of both; are these more than 12 then, one empty CHOICE.");
    becomes("[abcdef]xy.|[ghijk]xy.", "none", "axy|bxy|cxy|dxy|exy|fxy|gxy|hxy|ixy|jxy|kxy");
    becomes("[abcdef]xy.|[ghijkl]xy.", "none", "axy|bxy|cxy|dxy|exy|fxy|gxy|hxy|ixy|jxy|kxy|lxy");
    becomes("[abcdef]xy.|[ghijkl]xy.|mxy.", "none", "");
    becomes("[abcdef]xy.|[ghijkl]xy.|mxy.|nxy.", "none", "");
    becomes("[abcdef]xy.|[ghijkl]xy.|axy.", "none",
        "axy|bxy|cxy|dxy|exy|fxy|gxy|hxy|ixy|jxy|kxy|lxy");
    becomes("([abcdef]xy.|[ghijkl]xy.|mxy.)+pqr", "none", "pqr");
  }

  private void both() {
    sentence("BOTH: for each CHOICE of the one and each of the other one all TRIPLES of both; "
        + "are these more than 12 then, the first NEED alone stays.");
    becomes("[ab]kl.[cd]mn", "none", "akl cmn|akl dmn|bkl cmn|bkl dmn");
    becomes("[abc]kl.[defg]mn", "none", "akl dmn|akl emn|akl fmn|akl gmn|bkl dmn|bkl emn|bkl fmn"
        + "|bkl gmn|ckl dmn|ckl emn|ckl fmn|ckl gmn");
    becomes("[ab]kl.[cdefgh]mn", "none", "akl cmn|akl dmn|akl emn|akl fmn|akl gmn|akl hmn"
        + "|bkl cmn|bkl dmn|bkl emn|bkl fmn|bkl gmn|bkl hmn");
    becomes("[abc]kl.[defgh]mn", "none", "akl|bkl|ckl");
    becomes("[defgh]mn.[abc]kl", "none", "dmn|emn|fmn|gmn|hmn");
    becomes("[abc]kl.[defgh]mn.xyz", "none", "akl xyz|bkl xyz|ckl xyz");
    becomes("([abcdef]xy|gxy)+.[hi]xy", "none", "axy|bxy|cxy|dxy|exy|fxy|gxy");
    becomes("[hi]xy.([abcdef]xy|gxy)+", "none", "hxy|ixy");
    becomes("[abcd]kl.[apqrs]kl", "none", "akl|bkl|ckl|dkl");
  }

  private void counted() {
    sentence("(Counted when none is left that has all of another one.");
    becomes("[abcd]kl.[aefg]kl", "none", "akl|bkl ekl|bkl fkl|bkl gkl|ckl ekl|ckl fkl|ckl gkl"
        + "|dkl ekl|dkl fkl|dkl gkl");
    becomes("[abcdef]kl.[abcdef]kl", "none", "akl|bkl|ckl|dkl|ekl|fkl");
    becomes("[abcdef]xy.|[defghi]xy.|[ghijkl]xy.", "none",
        "axy|bxy|cxy|dxy|exy|fxy|gxy|hxy|ixy|jxy|kxy|lxy");
    becomes("[abcdef]xyz.|[ghijkl]xyz.|xyz.", "none", "xyz");
    becomes("([abcdef]xyz.|[ghijkl]xyz.|mxyz.|xyz.)+", "none", "");
  }

  private void emptyChoice() {
    sentence("An empty CHOICE is in all others.)");
    becomes("abc|de", "abc,de", "");
    becomes("de|abc", "abc,de", "");
    becomes("abc.|.", "none", "");
    becomes(".|abc.", "none", "");
    becomes("(abc|x).", "none", "");
    becomes("(abc.|.)def", "none", "def");
  }

  private void sets() {
    sentence("A letter: EXACT that. [ ] with at most 6 letters: these, else none;");
    becomes("z", "z", "");
    becomes("[z]", "z", "");
    becomes("[zyxcba]", "a,b,c,x,y,z", "");
    becomes("[gfedcba]", "none", "");
    becomes("[" + SMALL + "]", "none", "");
    becomes("ab[cdefgh]", "abc,abd,abe,abf,abg,abh", "abc|abd|abe|abf|abg|abh");
    becomes("ab[cdefghi]", "none", "");
  }

  private void anyLetter() {
    sentence(". none; their NEED OF ROWS, or one empty CHOICE without EXACT.");
    becomes(".", "none", "");
    fine("one empty CHOICE", x.pattern(0, 2), 1);
    becomes("a", "a", "");
    fine("one empty CHOICE of a row that has no TRIPLE", x.pattern(0, 2), 1);
    becomes("[abc]", "a,b,c", "");
    fine("one of three such rows", x.pattern(0, 2), 1);
    becomes("[abcdefg]", "none", "");
    fine("one empty CHOICE", x.pattern(0, 2), 1);
  }

  private void star() {
    sentence("* no EXACT, one empty CHOICE.");
    becomes("(abc)*", "none", "");
    fine("one", x.pattern(0, 2), 1);
    becomes("abc(def)*ghi", "none", "abc ghi");
    becomes("ab(c)*de", "none", "");
  }

  private void question() {
    sentence("?: EXACT of what it has and the empty row, if these are not more than 6, else none; one empty CHOICE.");
    becomes("[abcde]?", ",a,b,c,d,e", "");
    becomes("[abcdef]?", "none", "");
    becomes("([abcde]?)?", ",a,b,c,d,e", "");
    becomes("(abc)?", ",abc", "");
    becomes(".?", "none", "");
    becomes("((abc)+)?", "none", "");
    becomes("(abcdefghi)?xyz", "none", "xyz");
    becomes("ab(cd)?ef", "abcdef,abef", "abc bcd cde def|abe bef");
    becomes("abc[defghi]?jkl", "none", "abc jkl");
  }

  private void plus() {
    sentence("+: no EXACT; the NEED of what it has.");
    becomes("a+", "none", "");
    becomes("(abc)+", "none", "abc");
    becomes("(abc|xyz)+", "none", "abc|xyz");
    becomes("((abc)*)+", "none", "");
    becomes("((abc)+)+", "none", "abc");
    becomes("(abc|d)+", "none", "");
    becomes("ab(c)+de", "none", "");
  }

  // ---- BRANCHES

  private void branchAtFirst() {
    sentence("BRANCH: a set of rows R, at first the empty row alone, a NEED, at first one empty CHOICE;");
    becomes("a", "a", "");
    becomes("x|abc.", "none", "");
    becomes("abc.|bc", "none", "");
    becomes("abc.|b.c", "none", "");
    becomes("(abc).(def)(.)", "none", "abc def");
    becomes("(abc.)(de.)", "none", "abc");
  }

  private void itemWithoutExact() {
    sentence("without EXACT: NEED becomes BOTH of it and that OF ROWS of R, then BOTH of that and the NEED of the ITEM; "
        + "R is the empty row alone.");
    becomes("abc.", "none", "abc");
    becomes(".abc", "none", "abc");
    becomes("ab.c", "none", "");
    becomes("ab.cde", "none", "cde");
    becomes("abc.de", "none", "abc");
    becomes("abc(def)+", "none", "abc def");
    becomes("ab(cde)+fg", "none", "cde");
    becomes("[abc]xy([defg]xy)+", "none", "axy dxy|axy exy|axy fxy|axy gxy|bxy dxy|bxy exy|bxy fxy"
        + "|bxy gxy|cxy dxy|cxy exy|cxy fxy|cxy gxy");
    becomes("[abc]xy([defgh]xy)+", "none", "axy|bxy|cxy");
  }

  private void itemWithExact() {
    sentence("With EXACT: each row of R with each of EXACT behind it; if these are at most 6 (unlike ones), "
        + "none of more than 8 LETTERS, that is R;");
    becomes("[abc][de]", "ad,ae,bd,be,cd,ce", "");
    becomes("(a|aa|aaa)(a|aa|aaa)", "aa,aaa,aaaa,aaaaa,aaaaaa", "");
    becomes("a?a?a?a?a?", ",a,aa,aaa,aaaa,aaaaa", "");
    becomes("a?a?a?a?a?a?", "none", "");
    becomes("(ab|abc)(cd|d)x", "abccdx,abcdx,abdx", "abc bcc ccd cdx|abc bcd cdx|abd bdx");
    becomes("abcd(efgh)", "abcdefgh", "abc bcd cde def efg fgh");
    becomes("abcd(efghi)", "none", "abc bcd cde def efg fgh ghi");
    becomes("(abcdefgh)", "abcdefgh", "abc bcd cde def efg fgh");
    becomes("(abcdefgh)a?", "none", "abc bcd cde def efg fgh");
  }

  private void needOfRowsSoFar() {
    sentence("else NEED becomes BOTH of it and that OF ROWS of R;");
    becomes("abcdefgh[ij]", "none", "abc bcd cde def efg fgh ghi|abc bcd cde def efg fgh ghj");
    becomes("[ab]xy[cd][ef]", "none", "axy xyc|axy xyd|bxy xyc|bxy xyd");
    becomes("xyz.[ab]pq[cd][ef]", "none", "apq pqc xyz|apq pqd xyz|bpq pqc xyz|bpq pqd xyz");
  }

  private void lastTwoLetters() {
    sentence("then R is each row's last two LETTERS (all, if fewer) with each of EXACT behind it, "
        + "if these are at most 6 and none of more than 8 LETTERS,");
    becomes("abcdefghi", "none", "abc bcd cde def efg fgh ghi");
    becomes("abcdefghij", "none", "abc bcd cde def efg fgh ghi hij");
    becomes("abcdefghijklmno", "none", "abc bcd cde def efg fgh ghi hij ijk jkl klm lmn mno");
    // rows of three LETTERS and more go down to two, those of one and none stay
    becomes("(xyab|zab|wab|c)[de]f", "none", "abd bdf|abe bef|cdf|cef");
    becomes("(xyab|zab|wab|c?)[de]fg", "none", "dfg|efg");
    // six rows by the last two LETTERS, then eight
    becomes("(za|yxza|b)[pqr]s", "none", "aps zap|aqs zaq|ars zar|bps|bqs|brs");
    becomes("(za|yxza|b)[pqrt]su", "none", "psu|qsu|rsu|tsu");
    // eight LETTERS by the last two
    becomes("abcde(fghijk)", "none", "abc bcd cde def efg fgh ghi hij ijk");
    // a row of one LETTER, another one of eight behind it
    becomes("a(bcdefghi)", "none", "bcd cde def efg fgh ghi");
    becomes("a(bcdefgh)", "abcdefgh", "abc bcd cde def efg fgh");
  }

  private void exactAlone() {
    sentence("else EXACT alone.");
    becomes("abcde(fghijkl)", "none", "abc bcd cde fgh ghi hij ijk jkl");
    becomes("abcdefgh(ijklmno|p)", "none", "abc bcd cde def efg fgh");
    becomes("abcdefgh(ijklmno|pqr)", "none",
        "abc bcd cde def efg fgh ijk jkl klm lmn mno|abc bcd cde def efg fgh pqr");
    becomes("[abc][def]gh", "none", "dgh|egh|fgh");
    becomes("xy[abc][def]gh", "none", "dgh xya|dgh xyb|dgh xyc|egh xya|egh xyb|egh xyc|fgh xya|fgh xyb|fgh xyc");
    becomes("xy[abc][def]", "none", "xya|xyb|xyc");
  }

  private void endOfABranch() {
    sentence("At the end NEED becomes BOTH of it and that OF ROWS of R.");
    becomes(".abc", "none", "abc");
    becomes(".ab", "none", "");
    becomes("xyz.abc", "none", "abc xyz");
    becomes("abcdefghi", "none", "abc bcd cde def efg fgh ghi");
    becomes("[abc]kl.[defgh]mn", "none", "akl|bkl|ckl");
  }

  private void exactOfABranch() {
    sentence("EXACT of the BRANCH: R, if each ITEM had EXACT and R was never made by the last two LETTERS or EXACT alone; "
        + "else none.");
    becomes("abc", "abc", "abc");
    becomes("ab.", "none", "");
    becomes(".ab", "none", "");
    becomes("a*b", "none", "");
    becomes("abcdefghi", "none", "abc bcd cde def efg fgh ghi");
    becomes("[abc][def]", "none", "");
    becomes("(abcdefghi)x", "none", "abc bcd cde def efg fgh ghi");
  }

  private void depth() {
    sentence("DEPTH: of a SPOT 1; of an ITEM with a SIGN 1 more than that of its ATOM; of a BRANCH 1 more than the most "
        + "of its ITEMS; of a PATTERN (in ( ), too) 1 more than the most of its BRANCHES.");
    patternIs("a", 1, 0, 1, 3);
    patternIs("[ab]", 1, 0, 1, 3);
    patternIs(".", 1, 0, 1, 3);
    patternIs("a?", 1, 1, 0, 4);
    patternIs("a+", 1, 0, 1, 4);
    patternIs("a*", 1, 1, 0, 4);
    patternIs("ab*", 2, 0, 1, 4);
    patternIs("a*b", 2, 0, 1, 4);
    patternIs("a|b*", 2, 1, 0, 4);
    patternIs("a*|b", 2, 1, 0, 4);
    patternIs("(a)", 1, 0, 1, 5);
    patternIs("(a)*", 1, 1, 0, 6);
    patternIs("(a*)", 1, 1, 0, 6);
    patternIs("(a)b", 2, 0, 2, 5);
    patternIs("(a)|b*", 2, 1, 0, 5);
    patternIs("(((((a)))))", 1, 0, 1, 13);
    patternIs("(((((a*)*)*)*)*)*", 1, 1, 0, 19);
    patternIs("(((((a+)?)+)*)+)?|bc", 3, 1, 0, 19);
  }

  // ---- PATTERNS

  private void exactOfAPattern() {
    sentence("PATTERN: EXACT: that of all BRANCHES together, if each has it, and these are not more than 6;");
    becomes("ab|cd", "ab,cd", "");
    becomes("[abc]|[def]", "a,b,c,d,e,f", "");
    becomes("[abc]|[defg]", "none", "");
    becomes("[abcdef]|[fedcba]", "a,b,c,d,e,f", "");
    becomes("[abcd]|[cdef]", "a,b,c,d,e,f", "");
    becomes("[abcde]|f?", "none", "");
    becomes("[abcd]|e?", ",a,b,c,d,e", "");
    becomes("ab|c.", "none", "");
    becomes("c.|ab", "none", "");
    becomes("ab|c*|de", "none", "");
    becomes("(ab|c)(d|ef)", "abd,abef,cd,cef", "");
    becomes("([abc]|[defg])hi", "none", "");
  }

  private void needOfAPattern() {
    sentence("NEED: of BRANCHES one by one, EITHER of what there was and the next one; but with EXACT that OF ROWS of it.");
    becomes("abc.", "none", "abc");
    becomes("abc.|def.", "none", "abc|def");
    becomes("abc.|def.|ghi.", "none", "abc|def|ghi");
    becomes("abcd.|def.|abc.", "none", "abc|def");
    becomes("[abcdef]xy.|[ghijkl]xy.|mxy.|axy.", "none", "");
    becomes("abc|def", "abc,def", "abc|def");
    becomes("abcd|abc", "abc,abcd", "abc");
    becomes("[abc]kl|[defg]kl", "none", "akl|bkl|ckl|dkl|ekl|fkl|gkl");
  }

  private void orderOfRows() {
    sentence("Rows of EXACT stand by their first difference (the lesser LETTER first; that which ends first).");
    becomes("b|a", "a,b", "");
    becomes("ab|a", "a,ab", "");
    becomes("b|ab|a?", ",a,ab,b", "");
    becomes("az|b|aaz|aab|aa|z", "aa,aab,aaz,az,b,z", "");
    becomes("zzzzzzzz|zzzzzzza|zzzzzzz|z", "z,zzzzzzz,zzzzzzza,zzzzzzzz", "");
  }

  private void orderOfChoices() {
    sentence("TRIPLES of a CHOICE by their numbers; CHOICES by their first difference of TRIPLES "
        + "(the lesser first; that which ends first).");
    becomes("zyxabc", "zyxabc", "abc xab yxa zyx");
    becomes("zzz|aaa|mmm", "aaa,mmm,zzz", "aaa|mmm|zzz");
    becomes("abcz|abcd|abcm", "abcd,abcm,abcz", "abc bcd|abc bcm|abc bcz");
    becomes("zabc|abcd|yabc", "abcd,yabc,zabc", "abc bcd|abc yab|abc zab");
    becomes("bcda|cda.|abce", "none", "abc bce|cda");
    // the second one has its least TRIPLE behind, the first one has more of them
    becomes("bcabx|caby|abcd", "abcd,bcabx,caby", "abc bcd|abx bca cab|aby cab");
  }

  // ---- the GATE

  private static final String ABC = "abcx";
  private static final String BCD = "bcdx";

  private void gateWithoutTriples() {
    sentence("GATE of a PATTERN: CHOICE by CHOICE: without TRIPLES all DOCUMENTS.");
    gateIs(patterns("a"), 0, 0, 0, 0);
    gateIs(docs("b") + patterns("a"), 1, 0, 0, 1);
    gateIs(docsOf(10) + patterns("a"), 1023, 0, 1, 9);
    gateIs(docsOf(10) + patterns("x*"), 1023, 0, 1023, 0);
  }

  private void gateFromTheFirst() {
    sentence("Else its LISTS, by TRIPLES: AT is DOCUMENT 0;");
    gateIs(docs("abc", "x") + patterns("abc"), 1, 2, 1, 0);
    gateIs(docs("abc") + patterns("abc"), 1, 2, 1, 0);
    // cab, the second LIST by TRIPLES, has none: two LEAPS; begun with it there were one
    gateIs(docs("abc", "abc") + patterns("cabc"), 0, 2, 0, 0);
    gateIs(docs("cab", "cab") + patterns("cabc"), 0, 1, 0, 0);
    // anew for each CHOICE
    gateIs(docs("xyz", "abc") + patterns("abc|xyz"), 3, 4, 3, 0);
  }

  private void roundAndRound() {
    sentence("again and again, from the first LIST on, LIST by LIST, round and round:");
    // behind the last LIST comes the first one: abc 0, bcd 1, abc 2, bcd 3, abc 4, bcd has none
    gateIs(docs(ABC, BCD, ABC, BCD, ABC) + patterns("abcd"), 0, 6, 0, 0);
    // begun with abc, not with bcd: abc 1, bcd 2, abc 3, bcd 4, abc has none
    gateIs(docs(BCD, ABC, BCD, ABC, BCD) + patterns("abcd"), 0, 5, 0, 0);
    // three LISTS: abc 0, bcd 1, cde 2, abc 3, bcd 4, cde has none
    gateIs(docs(ABC, BCD, "cdex", ABC, BCD, ABC) + patterns("abcde"), 0, 6, 0, 0);
    // the other way round: abc 2, bcd 4, cde has none
    gateIs(docs("cdex", BCD, ABC, "cdex", BCD) + patterns("abcde"), 0, 3, 0, 0);
    // one LIST is behind itself
    gateIs(docs(ABC, ABC, ABC) + patterns("abc"), 7, 4, 7, 0);
  }

  private void leap() {
    sentence("a LEAP: the first DOCUMENT of the LIST that is not ahead of AT;");
    gateIs(docs("abcd", "x") + patterns("abcd"), 1, 3, 1, 0);
    gateIs(docs("x", "y", "z", "abc") + patterns("abc"), 8, 2, 8, 0);
    gateIs(docs("abc", "x", "abc", "abc", "y") + patterns("abc"), 13, 4, 13, 0);
    gateIs(docs("x", "x", "x", "x", "x", "x", "x", "x", "x", "abc") + patterns("abc"), 512, 2, 512, 0);
  }

  private void over() {
    sentence("without one the CHOICE is over;");
    gateIs(patterns("abc"), 0, 1, 0, 0);
    gateIs(docs("x") + patterns("abc"), 0, 1, 0, 0);
    gateIs(docs(ABC, ABC, ABC) + patterns("abcd"), 0, 2, 0, 0);
    gateIs(docs(BCD, BCD, BCD) + patterns("abcd"), 0, 1, 0, 0);
    gateIs(docs(ABC, "abcd") + patterns("abcd|xyz"), 2, 5, 2, 0);
    gateIs(docs("xyz") + patterns("abc|xyz"), 1, 3, 1, 0);
  }

  private void agrees() {
    sentence("is it behind AT, AT is that, and it is the first LIST that agrees;");
    // abc leaps to 0, bcd to 2, abc agrees on 2: a CANDIDATE; then bcd has none
    gateIs(docs(ABC, "x", "abcd") + patterns("abcd"), 4, 4, 4, 0);
    // abc 0, bcd 1, abc 2, bcd 3, abc 3: a CANDIDATE; then bcd has none
    gateIs(docs(ABC, BCD, ABC, "abcd") + patterns("abcd"), 8, 6, 8, 0);
    // abc 0, bcd 0, cde 1, abc 1, bcd 1: a CANDIDATE; then cde has none
    gateIs(docs("abcd", "abcde") + patterns("abcde"), 2, 6, 2, 0);
    // abc 0, bcd 1, cde 2, abc 2, bcd 2: a CANDIDATE; then cde has none
    gateIs(docs(ABC, "abcd", "abcde") + patterns("abcde"), 4, 6, 4, 0);
  }

  private void candidate() {
    sentence("as soon as all LISTS agreed one behind the other on AT, it is a CANDIDATE, AT is one more, none agrees "
        + "(the next LIST is the one behind).");
    gateIs(docs("abcd") + patterns("abcd"), 1, 3, 1, 0);
    gateIs(docs("abcd", "abcd") + patterns("abcd"), 3, 5, 3, 0);
    // abc 0, bcd 1, abc 1: a CANDIDATE; bcd, the one behind, has none
    gateIs(docs(ABC, "abcd", ABC) + patterns("abcd"), 2, 4, 2, 0);
    // as above, but bcd leaps to 2 and abc has none
    gateIs(docs(ABC, "abcd", BCD) + patterns("abcd"), 2, 5, 2, 0);
    // three LISTS: abc 0, bcd 0, cde 1, abc 1, bcd 1: a CANDIDATE; cde 2, abc has none
    gateIs(docs("abcd", "abcde", "cde") + patterns("abcde"), 2, 7, 2, 0);
    gateIs(docs("abcd", "abcde", "bcd") + patterns("abcde"), 2, 6, 2, 0);
    String[] ten = new String[10];
    for (int i = 0; i < 10; i++) ten[i] = "abcd";
    gateIs(docs(ten) + patterns("abcd"), 1023, 21, 1023, 0);
    gateIs(docs(ten) + patterns("abc"), 1023, 11, 1023, 0);
    // as many LEAPS as there can be: ten times 22 LISTS agree, and one has none
    for (int i = 0; i < 10; i++) ten[i] = SMALL.substring(0, 24);
    gateIs(docs(ten) + patterns(SMALL.substring(0, 24)), 1023, 221, 1023, 0);
  }

  private void ofAllChoices() {
    sentence("CANDIDATES are those of all CHOICES.");
    gateIs(docs("abc", "x", "xyz") + patterns("abc|xyz"), 5, 4, 5, 0);
    gateIs(docs("abcxyz", "x") + patterns("abc|xyz"), 1, 4, 1, 0);
    gateIs(docs("mno", "abc", "q", "xyz") + patterns("abc|xyz|mno"), 11, 6, 11, 0);
  }

  // ---- the matcher

  private void fits() {
    sentence("A DOCUMENT FITS a PATTERN, if that can be a row of LETTERS that stands in it side by side (also an empty row).");
    loaded(docs("abc", "ac", "b", "cab") + patterns("ab", "bc", "c", "x*", "x?", "abc", "abcd", "b"));
    fine("at the begin, in the middle, at the end", x.document(0, 2), 1 + 2 + 4 + 8 + 16 + 32 + 128);
    fine("not side by side", x.document(1, 2), 4 + 8 + 16);
    fine("one LETTER", x.document(2, 2), 8 + 16 + 128);
    fine("not the end and the begin", x.document(3, 2), 1 + 4 + 8 + 16 + 128);
    fine("longer than all", x.gate(6, 2), 0);
    fine("the empty row stands in all", x.gate(3, 2), 15);
    matchIs(repeat("a", 24), repeat("a", 23), -1, -1, 0);
    matchIs(repeat("a", 24), repeat("a", 24), 0, 24, 1);
  }

  private void firstMatch() {
    sentence("The FIRST MATCH: of all places the first from which on it can be so, of these the most LETTERS.");
    matchIs("a", "a", 0, 1, 1);
    matchIs("b", "ab", 1, 1, 1);
    matchIs("abc|b", "abd", 1, 1, 1);
    matchIs("b|abc", "abc", 0, 3, 1);
    matchIs("a|ab|abc", "abab", 0, 2, 2);
    matchIs("abc|a", "abab", 0, 1, 2);
    matchIs("a+", "baab", 1, 2, 1);
    matchIs("b*", "abb", 0, 0, 3);
    matchIs(".*", repeat("q", 60), 0, 60, 2);
    matchIs("z", repeat("a", 59) + "z", 59, 1, 1);
    matchIs("z", repeat("a", 60), -1, -1, 0);
    matchIs("x(ab)", "xxab", 1, 3, 1);
    matchIs("x(ab|cd)e", "xabcdexcde", 6, 4, 1);
    matchIs("x(a|b)*y", "xxabay", 1, 5, 1);
  }

  private void matches() {
    sentence("MATCHES: the FIRST MATCH, then, from where it ends on (one PLACE more, if it was empty), likewise, "
        + "till there is none (an empty one behind all LETTERS counts).");
    matchIs("a", "aaa", 0, 1, 3);
    matchIs("aa", "aaa", 0, 2, 1);
    matchIs("aa", "aaaa", 0, 2, 2);
    matchIs("aba", "abababa", 0, 3, 2);
    matchIs("a", "b", -1, -1, 0);
    matchIs("a", "bab", 1, 1, 1);
    matchIs("a?", "b", 0, 0, 2);
    matchIs("a?", "a", 0, 1, 2);
    matchIs("a*", "aa", 0, 2, 2);
    matchIs("a*", "ba", 0, 0, 3);
    matchIs("a*", "ab", 0, 1, 3);
    matchIs("a*", "bbb", 0, 0, 4);
    matchIs("x*", repeat("a", 60), 0, 0, 61);
    matchIs("a", repeat("a", 60), 0, 1, 60);
    matchIs("(ab)?", "aab", 0, 0, 3);
  }

  private void alive() {
    sentence("ALIVE behind a PLACE: SPOTS at which a row can have come to its last LETTER just there, "
        + "begun anywhere ahead of it or at it.");
    loaded(docs("aab", "b") + patterns("aab", "a*b", "(ab|a)b", "b?", "ba"));
    fine("begun at it", x.alive(0, 0, 0), 1);
    fine("begun ahead of it and at it", x.alive(0, 0, 1), 3);
    fine("the last SPOT of all", x.alive(0, 0, 2), 4);
    fine("none", x.alive(0, 1, 0), 0);
    fine("a is alive", x.alive(1, 0, 1), 1);
    fine("b behind a", x.alive(1, 0, 2), 2);
    fine("b at once", x.alive(1, 1, 0), 2);
    fine("in either BRANCH", x.alive(2, 0, 0), 1 + 4);
    fine("behind either", x.alive(2, 0, 2), 2 + 8);
    fine("not b at once", x.alive(2, 1, 0), 0);
    fine("an empty row has no LETTER", x.alive(3, 0, 0), 0);
    fine("also behind a match", x.alive(3, 0, 2), 1);
    fine("what can still come does not count", x.alive(4, 1, 0), 1);
    x = new PatternGate();
    loaded(docs(repeat("a", 60)) + patterns(repeat("a", 24)));
    fine("the first PLACE", x.alive(0, 0, 0), 1);
    fine("ahead of the last SPOT", x.alive(0, 0, 22), (1 << 23) - 1);
    fine("all SPOTS", x.alive(0, 0, 23), (1 << 24) - 1);
    fine("the last PLACE", x.alive(0, 0, 59), (1 << 24) - 1);
  }
}
