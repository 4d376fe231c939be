import java.lang.reflect.Method;
import java.lang.reflect.Modifier;
import java.util.ArrayList;
import java.util.List;
import java.util.Random;

/** Long runs of calls, drawn from fixed seeds, on LoanBook and on NaiveBook: each answer must be the same. */
public final class NaiveRuns {
  private static final int RUNS = 1500, CALLS = 512;

  private final Random random;
  private final LoanBook book = new LoanBook();
  private final NaiveBook naive = new NaiveBook();
  private final List<String> told = new ArrayList<>();
  private static final List<Method> CALLABLE = new ArrayList<>();
  private boolean wrong = false;

  private NaiveRuns(long seed) { random = new Random(seed); }

  public static void main(String[] args) throws Exception {
    for (Method m : LoanBook.class.getDeclaredMethods()) if (Modifier.isPublic(m.getModifiers())) CALLABLE.add(m);
    CALLABLE.sort((a, b) -> a.getName().compareTo(b.getName()));
    int wrong = 0;
    for (int seed = 1; seed <= RUNS && wrong < 3; seed++) {
      NaiveRuns run = new NaiveRuns(seed);
      run.go();
      if (run.wrong) {
        wrong++;
        System.out.println("seed " + seed + ":");
        for (String line : run.told) System.out.println("  " + line);
      }
    }
    System.out.println(wrong == 0 ? "all runs answer alike" : wrong + " runs do not answer alike");
    if (wrong != 0) System.exit(1);
  }

  private void go() throws Exception {
    int style = random.nextInt(5);
    for (int loans = random.nextInt(4); loans > 0; loans--) call("loan", (long) among(1, random.nextBoolean() ? 5_000_000 : 400), among(0, 5000), among(0, 3), kmn());
    while (told.size() < CALLS - 125 && !wrong) {
      if (random.nextInt(12) == 0) text();
      else if (random.nextInt(10) == 0) tellSchedule();
      else call(name(style));
    }
    lookAtAll();
  }

  /** Runs differ in how fast time goes and how much is lent and paid. */
  private String name(int style) {
    int n = random.nextInt(10);
    if (n < 2) return "days";
    if (n == 2 && style != 1) return "pay";
    if (n == 3 && style < 3) return "loan";
    if (n == 4) return random.nextBoolean() ? "reset" : "rule";
    if (n == 5 && style == 4) return oneOf(List.of("would", "sooner", "image", "back"));
    return CALLABLE.get(random.nextInt(CALLABLE.size())).getName();
  }

  private void call(String name, Object... given) throws Exception {
    for (Method m : CALLABLE) {
      if (!m.getName().equals(name)) continue;
      Object[] args = given.length > 0 || m.getParameterCount() == 0 ? given : arguments(name);
      long got = ((Number) m.invoke(book, args)).longValue();
      Method other = NaiveBook.class.getDeclaredMethod(name, m.getParameterTypes());
      long want = ((Number) other.invoke(naive, args)).longValue();
      told.add(name + java.util.Arrays.toString(args) + " answered " + got + (got == want ? "" : ", due is " + want));
      if (got != want) wrong = true;
    }
  }

  private int among(int least, int most) { return least + random.nextInt(most - least + 1); }

  private <T> T oneOf(List<T> all) { return all.get(random.nextInt(all.size())); }

  private int loan() { return random.nextInt(25) == 0 ? oneOf(List.of(-1, 8, Integer.MIN_VALUE, Integer.MAX_VALUE)) : random.nextInt(20) == 0 ? 7 : random.nextInt(4); }

  private int what(int most) { return random.nextInt(25) == 0 ? oneOf(List.of(-1, most + 1, Integer.MIN_VALUE, Integer.MAX_VALUE)) : among(0, most); }

  private int holder() { return what(5); }

  private int day() { return random.nextInt(20) == 0 ? oneOf(List.of(0, 36524, 36525, -1, Integer.MIN_VALUE)) : among(0, 36524); }

  private int rate() { return random.nextInt(5) == 0 ? oneOf(List.of(0, 1, 5000, 5001, -1, Integer.MAX_VALUE)) : among(0, random.nextBoolean() ? 5000 : 900); }

  private long lent() {
    if (random.nextInt(6) == 0) return oneOf(List.of(0L, 1L, 2L, 7L, 59L, 100_000_000L, 100_000_001L, -1L, Long.MAX_VALUE, Long.MIN_VALUE));
    return random.nextBoolean() ? among(1, 100_000_000) : among(1, 9000);
  }

  /** Mostly about what the LOAN owes, so that each part of a payment is cut at times. */
  private long amount(int loan) {
    if (random.nextInt(12) == 0) return oneOf(List.of(0L, 1L, 1_000_000_000L, 1_000_000_001L, -1L, Long.MAX_VALUE, Long.MIN_VALUE));
    long owed = naive.sum(loan, 3), balance = naive.sum(loan, 1);
    return switch (random.nextInt(6)) {
      case 0 -> owed;
      case 1 -> owed + balance;
      case 2 -> owed + balance + random.nextInt(100) - 50;
      case 3 -> owed + (long) (balance * random.nextDouble());
      case 4 -> (long) (owed * random.nextDouble()) + 1;
      default -> among(1, 100_000);
    };
  }

  private long rateBits() {
    if (random.nextInt(4) == 0) {
      return oneOf(List.of(0L, Long.MIN_VALUE, 1L, Long.MIN_VALUE + 1, 0x000FFFFFFFFFFFFFL, 0x0010000000000000L, Long.MAX_VALUE, -1L,
          Double.doubleToRawLongBits(10.0), Double.doubleToRawLongBits(10.0) + 1, Double.doubleToRawLongBits(-0.5),
          Double.doubleToRawLongBits(Double.POSITIVE_INFINITY), Double.doubleToRawLongBits(Double.NEGATIVE_INFINITY),
          Double.doubleToRawLongBits(Double.NaN), Double.doubleToRawLongBits(1.0)));
    }
    return Double.doubleToRawLongBits(switch (random.nextInt(4)) {
      case 0 -> random.nextDouble() / 50;
      case 1 -> random.nextDouble();
      case 2 -> random.nextDouble() * 10;
      default -> random.nextDouble() * Math.pow(2, -random.nextInt(80));
    });
  }

  private long price() {
    if (random.nextInt(6) == 0) return oneOf(List.of(0L, 1L, -1L, Long.MAX_VALUE, Long.MIN_VALUE));
    long balance = Math.max(2, naive.sum(random.nextInt(4), 1));
    return 1 + (long) (balance * (random.nextBoolean() ? 0.9 + 0.2 * random.nextDouble() : random.nextDouble()));
  }

  private int kmn() {
    if (random.nextInt(12) == 0) return oneOf(List.of(0, 61, 100, 161, 201, 999, 3001, 2160, -1, -1001, 2200, Integer.MIN_VALUE, Integer.MAX_VALUE));
    return 1000 * among(0, 2) + 100 * among(0, 1) + (random.nextInt(3) == 0 ? among(1, 60) : among(1, 14));
  }

  private int n() { return random.nextInt(30) == 0 ? oneOf(List.of(0, -1, 4001, 4000, Integer.MAX_VALUE)) : random.nextInt(12) == 0 ? among(1, 4000) : among(1, random.nextBoolean() ? 12 : 70); }

  private Object[] arguments(String name) {
    return switch (name) {
      case "date" -> new Object[] {day(), what(3)};
      case "dayOf" -> new Object[] {among(1999, 2100), among(0, 13), among(0, 32)};
      case "interest" -> { int d = day(), e = random.nextBoolean() ? day() : Math.max(-1, d) + among(-1, 500); yield new Object[] {lent(), rate(), what(3), d, e}; }
      case "loan" -> new Object[] {lent(), rate(), what(3), kmn()};
      case "days" -> new Object[] {n()};
      case "pay", "sooner" -> { int loan = loan(); yield new Object[] {loan, amount(loan)}; }
      case "reset" -> new Object[] {loan(), rate()};
      case "rule" -> random.nextBoolean() ? new Object[] {0, random.nextBoolean() ? among(-1, 40) : among(0, 91)} : new Object[] {what(1), oneOf(List.of(0, 1, 10000, 10001, -1, 700))};
      case "writeOff" -> new Object[] {random.nextInt(3) == 0 ? loan() : 6};
      case "settles" -> new Object[] {loan()};
      case "of" -> new Object[] {loan(), what(9)};
      case "sum" -> new Object[] {loan(), what(8)};
      case "bill", "toCome" -> new Object[] {loan(), random.nextInt(10) == 0 ? among(-1, 61) : among(0, 6), what(3)};
      case "coming" -> new Object[] {loan(), what(2)};
      case "value", "duration" -> new Object[] {loan(), rateBits()};
      case "yieldOf", "near" -> new Object[] {loan(), price()};
      case "behind" -> new Object[] {among(-1, 60)};
      case "would" -> { int loan = loan(); yield new Object[] {loan, amount(loan), what(5)}; }
      case "judge" -> new Object[] {holder(), loan()};
      case "feed" -> new Object[] {among(-1, 256)};
      case "hold" -> new Object[] {holder(), loan(), among(-2, 3)};
      case "row" -> new Object[] {holder(), random.nextInt(4) == 0 ? among(-3, 61) : among(-1, 5)};
      case "put" -> new Object[] {holder(), among(-1, 6), (long) among(0, 9)};
      case "tells" -> new Object[] {holder(), what(3)};
      case "count" -> new Object[] {what(7)};
      default -> throw new IllegalStateException(name);
    };
  }

  private String line() {
    return switch (random.nextInt(9)) {
      case 0, 1 -> "l " + Math.max(0, Math.min(999_999_999L, lent())) + " " + among(0, 5001) + " " + among(0, random.nextInt(9) == 0 ? 4 : 3)
          + " " + among(0, random.nextInt(9) == 0 ? 3 : 2) + " " + (random.nextInt(9) == 0 ? among(0, 1061) : among(1, 12)) + " " + (random.nextInt(9) == 0 ? among(0, 10) : among(0, 1));
      case 2 -> { int loan = among(0, 3); yield "p " + loan + " " + Math.max(0, Math.min(999_999_999L, amount(loan))); }
      case 3 -> "r " + among(0, 3) + " " + among(0, 5001);
      case 4, 5 -> "d " + (random.nextInt(9) == 0 ? among(0, 4001) : among(1, 60));
      case 6 -> "w " + among(0, 3);
      case 7 -> "g " + among(0, random.nextInt(4) == 0 ? 91 : 30);
      default -> "f 00" + among(0, 10001);
    };
  }

  private void text() throws Exception {
    StringBuilder text = new StringBuilder(line());
    for (int lines = random.nextInt(4); lines > 0; lines--) text.append(';').append(line());
    if (random.nextInt(3) == 0 && text.length() > 0) {
      int at = random.nextInt(text.length());
      switch (random.nextInt(4)) {
        case 0 -> text.setLength(at);
        case 1 -> text.setCharAt(at, "lprdwgf 0123456789;x\u0000\u00ff".charAt(random.nextInt(22)));
        case 2 -> text.insert(at, "lprdwgf 0123456789;x".charAt(random.nextInt(20)));
        default -> text.append(oneOf(List.of(";", " ", "000000000", ";;", "x")));
      }
    }
    for (int i = 0; i < text.length() && told.size() < CALLS - 61; i++) call("feed", (int) text.charAt(i));
    call("script");
  }

  private void tellSchedule() throws Exception {
    int loan = random.nextInt(4), holder = random.nextInt(6);
    int n = (int) Math.max(0, Math.min(8, naive.coming(loan, 0))) + (random.nextInt(4) == 0 ? among(-1, 1) : 0);
    if (n < 0) return;
    call("row", holder, n);
    for (int i = 0; i < n; i++) call("put", holder, i, Math.max(0, naive.toCome(loan, i, 2)) + (random.nextInt(20) == 0 ? 1 : 0));
    call("judge", holder, loan);
  }

  private void lookAtAll() throws Exception {
    for (int what = 0; what <= 7; what++) call("count", what);
    for (int loan = 0; loan < 4; loan++) {
      for (int what = 5; what <= 9; what++) call("of", loan, what);
      for (int what = 1; what <= 8; what++) call("sum", loan, what);
    }
  }
}
