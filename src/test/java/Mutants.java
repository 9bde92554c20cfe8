import java.io.File;
import java.io.IOException;
import java.io.OutputStream;
import java.nio.file.Files;
import java.nio.file.Path;
import java.util.ArrayList;
import java.util.List;
import java.util.Map;
import java.util.concurrent.Callable;
import java.util.concurrent.ExecutorService;
import java.util.concurrent.Executors;
import java.util.concurrent.Future;
import java.util.concurrent.TimeUnit;
import java.util.regex.Matcher;
import java.util.regex.Pattern;
import java.util.stream.Stream;
import javax.tools.ToolProvider;

/**
 * Breaks the program in one place after the other and says which breaks the named tests don't see.
 * It is no test and takes minutes: README.md says how to run it by hand. What it shows is to be
 * looked at, as a break in a guard that never holds can't be seen by any call.
 */
public final class Mutants {
  private static final Path PROGRAM = Path.of("src/main/java/PatternGate.java");
  private static final long SECONDS = 40;
  private static final Map<String, String> OPERATORS = Map.ofEntries(
      Map.entry("<", "<="), Map.entry("<=", "<"), Map.entry(">", ">="), Map.entry(">=", ">"),
      Map.entry("==", "!="), Map.entry("!=", "=="), Map.entry("&&", "||"), Map.entry("||", "&&"),
      Map.entry("+", "-"), Map.entry("-", "+"), Map.entry("true", "false"),
      Map.entry("false", "true"), Map.entry("|=", "="), Map.entry("&=", "="),
      Map.entry("+=", "="), Map.entry("|", "&"), Map.entry("&", "|"));
  /** Comments and texts are passed over; of the rest operators, numbers and lines are broken. */
  private static final Pattern TOKEN = Pattern.compile(
      "/\\*.*?\\*/|//[^\n]*|\"(?:\\\\.|[^\"\\\\])*\"|'(?:\\\\.|[^'\\\\])'|\\w+"
      + "|>>>=?|<<|>>|<=|>=|==|!=|&&|\\|\\||\\+=|-=|\\|=|&=|\\+\\+|--|->|[-+<>|&]",
      Pattern.DOTALL);
  private static final Pattern STATEMENT = Pattern.compile(
      "^ {4,}(?!return |final |int |long |boolean |private |break|static |Doc |Book |Pattern |Part "
      + "|Doc\\[|Pattern\\[|int\\[|long\\[|this\\.)[^/*\n{}]*;$", Pattern.MULTILINE);

  private record Mutant(int from, int to, String instead) { }

  public static void main(String[] args) throws Exception {
    String source = Files.readString(PROGRAM);
    List<Mutant> mutants = mutantsOf(source);
    Path room = Files.createTempDirectory("mutants");
    ExecutorService workers = Executors.newFixedThreadPool(
        Math.max(1, Runtime.getRuntime().availableProcessors() - 1));
    List<Future<Boolean>> seen = new ArrayList<>();
    for (int i = 0; i < mutants.size(); i++) {
      Path folder = room.resolve("m" + i);
      Mutant mutant = mutants.get(i);
      Callable<Boolean> task = () -> isSeen(source, mutant, folder, args);
      seen.add(workers.submit(task));
    }
    int unseen = 0;
    for (int i = 0; i < mutants.size(); i++) {
      if (!seen.get(i).get()) {
        unseen++;
        show(source, mutants.get(i));
      }
    }
    workers.shutdown();
    remove(room);
    System.out.println("Mutants: " + mutants.size() + " breaks, " + unseen + " not seen");
  }

  private static List<Mutant> mutantsOf(String source) {
    List<Mutant> mutants = new ArrayList<>();
    Matcher tokens = TOKEN.matcher(source);
    while (tokens.find()) {
      String token = tokens.group();
      String instead = OPERATORS.get(token);
      if (instead != null) mutants.add(new Mutant(tokens.start(), tokens.end(), instead));
      if (token.matches("\\d+")) {
        int number = Integer.parseInt(token);
        mutants.add(new Mutant(tokens.start(), tokens.end(), String.valueOf(number + 1)));
        if (number > 0) {
          mutants.add(new Mutant(tokens.start(), tokens.end(), String.valueOf(number - 1)));
        }
      }
    }
    Matcher statements = STATEMENT.matcher(source);
    while (statements.find()) mutants.add(new Mutant(statements.start(), statements.end(), ";"));
    return mutants;
  }

  /** Whether a test fails, or does not end; what does not compile counts as seen, too. */
  private static boolean isSeen(String source, Mutant mutant, Path folder, String[] tests)
      throws IOException, InterruptedException {
    Files.createDirectories(folder);
    Path file = folder.resolve("PatternGate.java");
    Files.writeString(file, source.substring(0, mutant.from) + mutant.instead
        + source.substring(mutant.to));
    int compiled = ToolProvider.getSystemJavaCompiler().run(null, OutputStream.nullOutputStream(),
        OutputStream.nullOutputStream(), "-nowarn", "-d", folder.toString(), file.toString());
    boolean seen = compiled != 0;
    for (int i = 0; i < tests.length && !seen; i++) seen = !passes(folder, tests[i]);
    remove(folder);
    return seen;
  }

  private static boolean passes(Path folder, String test) throws IOException, InterruptedException {
    String path = folder + File.pathSeparator + System.getProperty("java.class.path");
    Process process = new ProcessBuilder("java", "-XX:TieredStopAtLevel=1", "-Xshare:auto", "-cp",
        path, test).redirectErrorStream(true).redirectOutput(ProcessBuilder.Redirect.DISCARD).start();
    boolean ended = process.waitFor(SECONDS, TimeUnit.SECONDS);
    if (!ended) process.destroyForcibly();
    return ended && process.exitValue() == 0;
  }

  private static void show(String source, Mutant mutant) {
    int line = (int) source.substring(0, mutant.from).chars().filter(c -> c == '\n').count() + 1;
    int begin = source.lastIndexOf('\n', mutant.from - 1) + 1;
    int end = source.indexOf('\n', mutant.to);
    String broken = source.substring(begin, mutant.from) + "<<" + source.substring(mutant.from,
        mutant.to) + " becomes " + mutant.instead + ">>" + source.substring(mutant.to, end);
    System.out.println(line + ": " + broken.trim());
  }

  private static void remove(Path folder) throws IOException {
    try (Stream<Path> all = Files.walk(folder)) {
      for (Path path : all.sorted((a, b) -> b.compareTo(a)).toList()) Files.delete(path);
    }
  }
}
