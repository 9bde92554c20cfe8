import java.lang.reflect.Constructor;
import java.lang.reflect.Field;
import java.lang.reflect.Method;
import java.lang.reflect.Modifier;
import java.nio.file.Files;
import java.nio.file.Path;
import java.util.ArrayList;
import java.util.List;
import java.util.Set;
import java.util.TreeSet;
import java.util.regex.Matcher;
import java.util.regex.Pattern;

/** The rules of LANGUAGE.md that a test can see: the face, forbidden words, sizes, allowed library. */
public final class LanguageTest {
  private static final String[] FACE = {
    "status 0", "feed 5", "load 1", "more 1", "fault 1", "many 1", "document 2", "letter 2",
    "pattern 2", "sign 2", "exact 3", "need 3", "list 2", "often 2", "gate 2", "match 3",
    "alive 3", "rarest 1", "within 2", "put 3", "let 3", "cut 3", "copy 3", "drop 1", "forget 1",
    "undo 0", "mark 0", "back 0", "would 3", "best 2"};
  private static final String[] FORBIDDEN = {
    "throw", "throws", "try", "catch", "finally", "synchronized", "assert", "volatile",
    "transient", "native", "package", "double", "float", "Object", "Thread", "Random", "System.out",
    "System.err", "System.nanoTime", "System.currentTimeMillis", "hashCode", "Exception", "this::"};
  private static int wrong = 0;

  public static void main(String[] args) throws Exception {
    face();
    String code = withoutTexts(Files.readString(Path.of("src/main/java/PatternGate.java")));
    words(code);
    library(code);
    sizes(code);
    System.out.println(wrong == 0 ? "LanguageTest: all rules hold" : "LanguageTest: " + wrong + " wrong");
    if (wrong != 0) System.exit(1);
  }

  private static void check(boolean good, String what) {
    if (!good) {
      wrong++;
      System.out.println("LanguageTest: " + what);
    }
  }

  private static void face() {
    Class<PatternGate> type = PatternGate.class;
    check(Modifier.isPublic(type.getModifiers()) && Modifier.isFinal(type.getModifiers()),
        "the class is not public and final");
    Set<String> due = new TreeSet<>(List.of(FACE));
    Set<String> names = new TreeSet<>();
    for (String name : FACE) names.add(name.split(" ")[0]);
    for (Method method : type.getDeclaredMethods()) {
      if (Modifier.isPublic(method.getModifiers())) {
        boolean ints = method.getReturnType() == int.class;
        for (Class<?> parameter : method.getParameterTypes()) ints &= parameter == int.class;
        check(ints && due.remove(method.getName() + " " + method.getParameterCount()),
            "not of the face: " + method);
      } else {
        check(Modifier.isPrivate(method.getModifiers()), "not private: " + method);
        check(!names.contains(method.getName()), "bears a public name: " + method);
      }
    }
    check(due.isEmpty(), "missing: " + due);
    Constructor<?>[] constructors = type.getDeclaredConstructors();
    check(constructors.length == 1 && Modifier.isPublic(constructors[0].getModifiers())
        && constructors[0].getParameterCount() == 0, "the constructor");
    for (Field field : type.getDeclaredFields()) {
      check(field.getName().equals("NONE") ? Modifier.isPublic(field.getModifiers())
          : Modifier.isPrivate(field.getModifiers()), "field " + field);
      check(!Modifier.isStatic(field.getModifiers()) || Modifier.isFinal(field.getModifiers()),
          "static and not final: " + field);
    }
    Class<?>[] inside = type.getDeclaredClasses();
    check(inside.length <= 11, "too many classes");
    for (Class<?> one : inside) {
      check(Modifier.isStatic(one.getModifiers()) && Modifier.isPrivate(one.getModifiers()),
          "not private and static: " + one);
      int fields = 0;
      for (Field field : one.getDeclaredFields()) {
        if (!Modifier.isStatic(field.getModifiers())) fields++;
      }
      check(fields <= 20, "too many fields: " + one);
      for (Method method : one.getDeclaredMethods()) {
        check(!names.contains(method.getName()), "bears a public name: " + method);
        check(method.getParameterCount() <= 7, "too many parameters: " + method);
      }
    }
  }

  /** The program without comments, and without what stands in texts and signs. */
  private static String withoutTexts(String source) {
    Matcher matcher = Pattern.compile("/\\*.*?\\*/|//[^\n]*|\"(\\\\.|[^\"\\\\])*\"|'(\\\\.|[^'\\\\])'",
        Pattern.DOTALL).matcher(source);
    StringBuilder code = new StringBuilder();
    while (matcher.find()) {
      String found = matcher.group();
      matcher.appendReplacement(code, found.startsWith("/") ? found.replaceAll("[^\n]", "")
          : found.startsWith("\"") ? "\"\"" : "' '");
    }
    matcher.appendTail(code);
    return code.toString();
  }

  private static void words(String code) {
    for (String word : FORBIDDEN) {
      check(!Pattern.compile("\\b" + Pattern.quote(word) + "\\b").matcher(code).find(),
          "forbidden: " + word);
    }
    check(!code.contains("->") && !code.contains("::") && !code.contains("@"),
        "a lambda, a method reference or an annotation");
    for (int i = 0; i < code.length(); i++) {
      check(code.charAt(i) < 127, "a sign beyond 126");
    }
  }

  private static void library(String code) {
    Set<String> imports = new TreeSet<>();
    Matcher matcher = Pattern.compile("import ([^;]*);").matcher(code);
    while (matcher.find()) imports.add(matcher.group(1));
    check(Set.of("java.util.Arrays", "java.util.ArrayList", "java.util.List").containsAll(imports),
        "imports: " + imports);
    Set<String> allowed = Set.of("System.arraycopy", "Arrays.copyOf", "Arrays.copyOfRange",
        "Arrays.fill", "Math.max", "Math.min", "Integer.bitCount", "Integer.numberOfTrailingZeros",
        "Long.numberOfTrailingZeros");
    matcher = Pattern.compile("\\b(System|Arrays|Math|Integer|Long)\\.(\\w+)").matcher(code);
    while (matcher.find()) {
      check(allowed.contains(matcher.group()) || matcher.group().equals("util.Arrays"),
          "library: " + matcher.group());
    }
  }

  private static void sizes(String code) {
    Pattern head = Pattern.compile("^ {2,4}[\\w\\[\\]<> ]+\\([^;]*\\{$");
    List<String> lines = new ArrayList<>(List.of(code.split("\n")));
    for (int i = 0; i < lines.size(); i++) {
      if (!head.matcher(lines.get(i)).matches() || lines.get(i).contains("class ")) continue;
      String indent = lines.get(i).replaceAll("\\S.*", "");
      int end = i + 1;
      while (end < lines.size() && !lines.get(end).equals(indent + "}")) end++;
      check(end - i + 1 <= 60, "too long: " + lines.get(i).trim());
    }
  }
}
