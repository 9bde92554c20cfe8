import java.util.Random;

/** DOCUMENTS and PATTERNS by chance, the same ones each time for the same Random. */
final class ChanceTexts {
  private final Random chance;
  /** Most LETTERS are among so many first ones, so that texts have something in common. */
  private final int reach;
  private int spotsLeft;

  ChanceTexts(Random chance, int reach) {
    this.chance = chance;
    this.reach = reach;
  }

  char small() {
    return (char) ('a' + (chance.nextInt(40) == 0 ? chance.nextInt(26) : chance.nextInt(reach)));
  }

  String doc(int length) {
    StringBuilder text = new StringBuilder();
    while (text.length() < length) text.append(small());
    return text.toString();
  }

  /** A PATTERN of about so many SPOTS; at times one too deep or with too many. */
  String pattern(int spots) {
    StringBuilder text = new StringBuilder();
    spotsLeft = spots;
    alternatives(text, 0);
    return text.toString();
  }

  private void alternatives(StringBuilder text, int deep) {
    branch(text, deep);
    int more = chance.nextInt(3);
    for (int i = 0; i < more && spotsLeft > 0; i++) {
      text.append('|');
      branch(text, deep);
    }
  }

  private void branch(StringBuilder text, int deep) {
    int items = 1 + chance.nextInt(deep == 0 ? 8 : 4);
    for (int i = 0; i < items && (i == 0 || spotsLeft > 0); i++) {
      atom(text, deep);
      int sign = chance.nextInt(deep == 0 ? 12 : 8);
      if (sign < 3) text.append("*+?".charAt(sign));
    }
  }

  private void atom(StringBuilder text, int deep) {
    int kind = chance.nextInt(20);
    if (kind < 3 + 2 * (deep < 2 ? 1 : 0) && deep < (chance.nextInt(30) == 0 ? 6 : 5)) {
      text.append('(');
      alternatives(text, deep + 1);
      text.append(')');
      return;
    }
    spotsLeft--;
    if (kind == 19) {
      text.append('.');
    } else if (kind > 15) {
      text.append('[');
      int many = chance.nextInt(6) == 0 ? 7 : 1 + chance.nextInt(4);
      char c = (char) ('a' + chance.nextInt(3));
      for (int i = 0; i < many; i++) text.append((char) (c + i));
      text.append(']');
    } else {
      text.append(small());
    }
  }
}
