import java.lang.management.ManagementFactory;

/** The dearest runs stay far below the room of one run: some 600,000 objects, 7.3 million fields. */
public final class RoomTest {
  /** An eighth of the room, were each of its fields and elements four bytes. */
  private static final long MOST_BYTES = 7_300_000L * 4 / 8;

  public static void main(String[] args) {
    int wrong = 0;
    // the first round also pays for what the machine itself makes once
    for (int round = 0; round < 2; round++) {
      wrong = 0;
      wrong += told("load of wide patterns", "pattern\"[ab]xy[cd].[gh]kl\";pattern\"[abc]kl.[defg]mn\";", true);
      wrong += told("load of small patterns", "pattern\"a\";", true);
      wrong += told("more that fails", "doc\"abcdefgh\";doc\"\";", false);
      wrong += edits();
      wrong += questions();
    }
    System.out.println(wrong == 0 ? "RoomTest: all runs are small" : "RoomTest: " + wrong + " wrong");
    if (wrong != 0) System.exit(1);
  }

  private static long allocated() {
    com.sun.management.ThreadMXBean threads =
        (com.sun.management.ThreadMXBean) ManagementFactory.getThreadMXBean();
    return threads.getThreadAllocatedBytes(Thread.currentThread().getId());
  }

  private static int verdict(String name, long bytes) {
    if (bytes <= MOST_BYTES) return 0;
    System.out.println("RoomTest: " + name + " took " + bytes + " bytes");
    return 1;
  }

  private static int[] words(String text) {
    StringBuilder padded = new StringBuilder(text);
    while (padded.length() % 20 != 0) padded.append(' ');
    int[] words = new int[padded.length() / 4];
    for (int i = 0; i < padded.length(); i++) words[i / 4] = words[i / 4] << 8 | padded.charAt(i);
    return words;
  }

  private static int told(String name, String text, boolean load) {
    int[] w = words(text);
    long before = allocated();
    PatternGate gate = new PatternGate();
    for (int call = 0; call < 512; ) {
      for (int i = 0; i < w.length; i += 5, call++) gate.feed(w[i], w[i + 1], w[i + 2], w[i + 3], w[i + 4]);
      int ignored = load ? gate.load(text.length()) : gate.more(text.length());
      call++;
    }
    return verdict(name, allocated() - before);
  }

  private static PatternGate filled() {
    PatternGate gate = new PatternGate();
    String text = "doc\"" + "abcdefghij".repeat(6) + "\";pattern\"(a.*|b)+c\";pattern\"abcdefghijkl\";";
    int[] w = words(text);
    for (int i = 0; i < w.length; i += 5) gate.feed(w[i], w[i + 1], w[i + 2], w[i + 3], w[i + 4]);
    gate.load(text.length());
    for (int i = 0; i < 9; i++) gate.copy(0, 0, 60);
    return gate;
  }

  private static int edits() {
    long before = allocated();
    PatternGate gate = filled();
    for (int call = 0; call < 512; call++) {
      gate.put(call % 10, call % 60, (call * 7) % 26);
      gate.mark();
    }
    return verdict("edits", allocated() - before);
  }

  private static int questions() {
    long before = allocated();
    PatternGate gate = filled();
    for (int call = 0; call < 512; call++) {
      gate.many(3);
      gate.gate(call % 2, call % 4);
      gate.document(call % 10, call % 4);
      gate.match(0, call % 10, 2);
      gate.best(call % 10, call % 60);
      gate.would(call % 10, call % 60, call % 26);
      gate.rarest(1);
      gate.within(0, 1);
    }
    return verdict("questions", allocated() - before);
  }
}
