import java.lang.reflect.Constructor;
import java.lang.reflect.Field;
import java.lang.reflect.Method;
import java.lang.reflect.Modifier;
import java.nio.file.Files;
import java.nio.file.Path;
import java.util.ArrayList;
import java.util.List;
import java.util.Set;
import java.util.TreeSet;
import java.util.regex.Matcher;
import java.util.regex.Pattern;

/** The public face is the document's and no more, and the source keeps to the rules of LANGUAGE.md that can be read off it. */
public final class FaceTests {
  private static final String[] FACE = {
    "int date(int, int)", "int dayOf(int, int, int)", "long interest(long, int, int, int, int)",
    "int loan(long, int, int, int)", "int days(int)", "long pay(int, long)", "long reset(int, int)", "long writeOff(int)",
    "int rule(int, int)", "int of(int, int)", "long sum(int, int)", "long bill(int, int, int)",
    "long toCome(int, int, int)", "long coming(int, int)", "long value(int, long)", "long yieldOf(int, long)",
    "int near(int, long)", "long duration(int, long)", "int behind(int)", "int settles(int)",
    "long would(int, long, int)", "int sooner(int, long)", "int judge(int, int)",
    "int feed(int)", "int script()", "int image()", "int back()", "int hold(int, int, int)", "int row(int, int)",
    "int put(int, int, long)", "long tells(int, int)", "int count(int)"};
  private static int wrong = 0;

  private static void must(boolean holds, String what) {
    if (!holds) { wrong++; System.out.println(what); }
  }

  public static void main(String[] args) throws Exception {
    methods();
    constantsAndConstructor();
    classesInside();
    source(Files.readString(Path.of("src/main/java/LoanBook.java")));
    System.out.println(wrong == 0 ? "the face and the source are as due" : wrong + " faults");
    if (wrong != 0) System.exit(1);
  }

  private static void methods() {
    Set<String> found = new TreeSet<>(), names = new TreeSet<>();
    for (Method m : LoanBook.class.getDeclaredMethods()) {
      if (Modifier.isPrivate(m.getModifiers())) continue;
      must(Modifier.isPublic(m.getModifiers()) && !Modifier.isStatic(m.getModifiers()), "not a public method: " + m);
      List<String> types = new ArrayList<>();
      for (Class<?> c : m.getParameterTypes()) types.add(c.getName());
      found.add(m.getReturnType().getName() + " " + m.getName() + "(" + String.join(", ", types) + ")");
      names.add(m.getName());
    }
    must(found.equals(new TreeSet<>(List.of(FACE))), "methods: " + found);
    for (Method m : LoanBook.class.getDeclaredMethods())
      must(Modifier.isPublic(m.getModifiers()) || !names.contains(m.getName()), "a private method bears a public name: " + m);
  }

  private static void constantsAndConstructor() {
    Set<String> found = new TreeSet<>();
    for (Field f : LoanBook.class.getDeclaredFields()) {
      int m = f.getModifiers();
      if (!Modifier.isPrivate(m)) found.add(Modifier.toString(m) + " " + f.getType() + " " + f.getName());
      must(!Modifier.isStatic(m) || Modifier.isFinal(m), "a static field that is not final: " + f);
    }
    must(found.equals(Set.of("public static final int BAD", "public static final int NOT", "public static final int FULL", "public static final int STATE")), "fields: " + found);
    must(LoanBook.BAD == -1 && LoanBook.NOT == -2 && LoanBook.FULL == -3 && LoanBook.STATE == -5, "constants");
    Constructor<?>[] all = LoanBook.class.getDeclaredConstructors();
    must(all.length == 1 && Modifier.isPublic(all[0].getModifiers()) && all[0].getParameterCount() == 0, "constructors");
    must(LoanBook.class.getModifiers() == (Modifier.PUBLIC | Modifier.FINAL), "the class is public and final");
  }

  private static void classesInside() {
    Class<?>[] inside = LoanBook.class.getDeclaredClasses();
    must(inside.length <= 11, "too many classes: " + inside.length);
    for (Class<?> c : inside) {
      must(Modifier.isStatic(c.getModifiers()) && !Modifier.isPublic(c.getModifiers()), "not a private static class: " + c);
      int fields = 0;
      for (Field f : c.getDeclaredFields()) {
        if (!Modifier.isStatic(f.getModifiers())) fields++;
        else must(Modifier.isFinal(f.getModifiers()), "a static field that is not final: " + f);
      }
      must(fields <= 20, "too many fields: " + c);
      for (Method m : c.getDeclaredMethods()) must(m.getParameterCount() <= 7, "too many parameters: " + m);
    }
  }

  private static void source(String text) {
    String code = text.replaceAll("(?s)/\\*.*?\\*/", "").replaceAll("//[^\n]*", "");
    Matcher imports = Pattern.compile("import ([^;]+);").matcher(code);
    while (imports.find()) must(imports.group(1).equals("java.util.Arrays"), "import: " + imports.group(1));
    for (String word : new String[] {"throw", "try", "catch", "finally", "synchronized", "assert", "package", "lambda", "strictfp", "transient", "volatile", "native"})
      must(!Pattern.compile("\\b" + word + "\\b").matcher(code).find(), "the source has: " + word);
    for (String sign : new String[] {"->", "::", "Double.", "Float.", "Exact(", "String", "System.out", "new Random", "static double", "\""})
      must(!code.replaceAll("static double \\w+\\(", "").contains(sign), "the source has: " + sign);
    Matcher library = Pattern.compile("\\b(Math|System|Arrays|Long|Integer)\\.(\\w+)").matcher(code);
    Set<String> known = Set.of("Math.min", "Math.max", "Math.floorMod", "System.arraycopy", "Arrays.fill", "Long.MIN_VALUE");
    while (library.find()) must(known.contains(library.group()) || library.group().startsWith("util"), "the source uses: " + library.group());
    for (String line : text.split("\n")) must(line.length() <= 120, "a long line: " + line);
  }
}
