import java.io.File;
import java.lang.reflect.Method;
import java.lang.reflect.Modifier;
import java.net.URL;
import java.net.URLClassLoader;
import java.nio.file.Files;
import java.nio.file.Path;
import java.util.ArrayList;
import java.util.List;
import java.util.regex.Matcher;
import java.util.regex.Pattern;
import javax.tools.ToolProvider;

/**
 * The examples of README.md are one program: it is compiled and run as it stands there, and each call must answer
 * what the comment behind it begins with. Each call of the face is among them.
 */
public final class ReadmeTests {
  private static final Pattern BLOCK = Pattern.compile("(?s)```java\n(.*?)```");
  private static final Pattern ANSWERED = Pattern.compile("(?:(\\w+ (\\w+)) = )?(\\S.*);\\s*// (-?[0-9][0-9.]*)(:.*)?");
  private static final Pattern CALL = Pattern.compile("book\\.(\\w+)\\(|new LoanBook\\(\\)\\.(\\w+)\\(");
  private static int answered = 0, wrong = 0;

  /** Called by the program that is made of the examples. */
  public static void due(String line, Object got, String want) {
    answered++;
    if (!String.valueOf(got).equals(want)) fault(line + "\n  answered " + got);
  }

  private static void fault(String what) {
    wrong++;
    System.out.println("README.md: " + what);
  }

  public static void main(String[] args) throws Exception {
    List<String> lines = examples(Files.readString(Path.of("README.md")));
    eachLineTellsItsAnswer(lines);
    eachCallIsShown(lines);
    run(program(lines));
    System.out.println(answered + " answers of README.md, " + wrong + " wrong");
    if (wrong != 0) System.exit(1);
  }

  private static List<String> examples(String readme) {
    List<String> lines = new ArrayList<>();
    Matcher blocks = BLOCK.matcher(readme);
    while (blocks.find()) lines.addAll(List.of(blocks.group(1).split("\n")));
    return lines;
  }

  /** But for feed, which is shown in a loop, too. */
  private static void eachLineTellsItsAnswer(List<String> lines) {
    for (String line : lines)
      if (CALL.matcher(line).find() && !ANSWERED.matcher(line).matches() && !line.strip().equals("book.feed(letter);"))
        fault("no answer stands behind " + line);
  }

  private static void eachCallIsShown(List<String> lines) {
    List<String> shown = new ArrayList<>();
    for (String line : lines) {
      Matcher call = CALL.matcher(line);
      while (call.find() && ANSWERED.matcher(line).matches()) shown.add(call.group(1) == null ? call.group(2) : call.group(1));
    }
    for (Method m : LoanBook.class.getDeclaredMethods())
      if (Modifier.isPublic(m.getModifiers()) && !shown.contains(m.getName())) fault("no example of " + m.getName());
  }

  private static String program(List<String> lines) {
    StringBuilder program = new StringBuilder("public final class Examples {\n  public static void main(String[] args) {\n");
    for (String line : lines) {
      Matcher m = ANSWERED.matcher(line);
      if (!m.matches()) { program.append(line).append('\n'); continue; }
      if (m.group(1) != null) program.append(m.group(1)).append(" = ").append(m.group(3)).append(";\n");
      program.append("ReadmeTests.due(\"").append(line.replace("\\", "\\\\").replace("\"", "\\\"")).append("\", ")
          .append(m.group(1) == null ? m.group(3) : m.group(2)).append(", \"").append(m.group(4)).append("\");\n");
    }
    return program.append("  }\n}\n").toString();
  }

  private static void run(String program) throws Exception {
    Path place = Files.createTempDirectory("readme");
    Path source = place.resolve("Examples.java");
    Files.writeString(source, program);
    String classes = System.getProperty("java.class.path");
    int failed = ToolProvider.getSystemJavaCompiler().run(null, null, null, "-proc:none", "-cp", classes, "-d", place.toString(), source.toString());
    if (failed != 0) fault("the examples do not compile");
    else try (URLClassLoader loader = new URLClassLoader(new URL[] {place.toUri().toURL()})) {
      loader.loadClass("Examples").getMethod("main", String[].class).invoke(null, (Object) new String[0]);
    }
    for (File file : place.toFile().listFiles()) Files.delete(file.toPath());
    Files.delete(place);
  }
}
