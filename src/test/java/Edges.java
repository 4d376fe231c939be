import java.util.ArrayList;
import java.util.List;

/** What the tests of boundary cases share: sentences of the document, checks, and refused calls that change nothing. */
abstract class Edges {
  static final int BAD = -1, NOT = -2, FULL = -3, STATE = -5, NOTHING = -11, SORT = -12, PLACE = -13, SIZE = -14;
  static final int LEAST = Integer.MIN_VALUE, MOST = Integer.MAX_VALUE, LAST_DAY = 36524;
  /** Nothing is promised behind an object's 512th call, so the looks at eight LOANS must do with less. */
  private static final int MOST_LOOKED_AT = 2;
  private static String sentence = "";
  private static int sentences = 0, checks = 0, wrong = 0;

  interface Made { LoanBook make(); }
  interface Call { long on(LoanBook x); }
  interface CallOf { long on(LoanBook x, int n); }
  interface CallOfLong { long on(LoanBook x, long n); }

  /** The sentence of the document that the checks behind it are for. */
  static void says(String words) { sentence = words; sentences++; }

  static void due(String call, long got, long want) {
    checks++;
    if (got != want) { wrong++; System.out.println("'" + sentence + "': " + call + " answered " + got + ", due is " + want); }
  }

  static void end() {
    System.out.println(sentences + " sentences, " + checks + " checks, " + wrong + " wrong");
    if (wrong != 0) System.exit(1);
  }

  /** A call on a book in this state answers so, and all that can be told of the book is as if it had not been. */
  static void refused(String call, Made state, Call c, long want) {
    LoanBook touched = state.make(), untouched = state.make();
    due(call, c.on(touched), want);
    alike(call, touched, untouched);
  }

  /** All that can be told of two books is the same. Both are used up by it. */
  static void alike(String call, LoanBook one, LoanBook other) {
    List<Long> now = picture(one), then = picture(other);
    int at = 0;
    while (at < then.size() && at < now.size() && then.get(at).equals(now.get(at))) at++;
    due(call + ": the first place that is not as due", at, then.size());
  }

  /** Refused just outside of a range, and at the farthest numbers; not refused just inside. */
  static void range(String what, Made state, CallOf c, int least, int most, long answer) {
    for (int n : new int[] {least - 1, most + 1, LEAST, MOST}) refused(what + " " + n, state, x -> c.on(x, n), answer);
    for (int n : new int[] {least, most}) due(what + " " + n + " is refused", c.on(state.make(), n) == answer ? 1 : 0, 0);
  }

  static void longRange(String what, Made state, CallOfLong c, long least, long most, long answer) {
    for (long n : new long[] {least - 1, most + 1, Long.MIN_VALUE, Long.MAX_VALUE}) refused(what + " " + n, state, x -> c.on(x, n), answer);
    for (long n : new long[] {least, most}) due(what + " " + n + " is refused", c.on(state.make(), n) == answer ? 1 : 0, 0);
  }

  /** LOANS 0 .. 3 of rich() and 0 .. 7 of full() are there, none of a new object, and no others. */
  static void noSuchLoan(CallOf c, long answer) {
    refused("LOAN 0 of a new object", LoanBook::new, x -> c.on(x, 0), answer);
    range("LOAN of four", Edges::rich, c, 0, 3, answer);
    range("LOAN of eight", Edges::full, c, 0, 7, answer);
    refused("LOAN 7 of four", Edges::rich, x -> c.on(x, 7), answer);
  }

  /** 1000.00 at 1 of a hundred a month for three months: LEVEL 34003; 1000 + 33003, 670 + 33333, 337 + 33664. */
  static LoanBook three(int kindAndMode) {
    LoanBook x = new LoanBook();
    x.loan(100000, 1200, 0, kindAndMode + 3);
    return x;
  }

  /** Something of all: LOANS of each KIND, BILLS with and without FEES, AN IMAGE, HOLDERS of each sort, a TEXT. */
  static LoanBook rich() { return rich("d 3"); }

  static LoanBook rich(String text) {
    LoanBook x = new LoanBook();
    x.days(30);
    x.loan(100000, 1200, 0, 104);
    x.loan(60000, 900, 1, 1006);
    x.loan(50000, 700, 3, 2004);
    x.loan(700, 0, 2, 5);
    x.pay(3, 300);
    x.days(41);
    x.pay(0, 700);
    x.image();
    x.rule(0, 20);
    x.rule(1, 300);
    x.days(25);
    x.hold(0, 1, -1);
    x.hold(1, 0, 1);
    x.row(2, 4);
    for (int i = 0; i < 4; i++) x.put(2, i, x.toCome(1, i, 2));
    x.row(3, 0);
    feed(x, text);
    return x;
  }

  /** Eight LOANS, each with a BILL that is four days old, and a LATE FEE that has not come yet. */
  static LoanBook full() {
    LoanBook x = new LoanBook();
    for (int i = 0; i < 8; i++) x.loan(90000 + i, 1200, i % 4, i % 3 * 1000 + i % 2 * 100 + 3 + i);
    x.image();
    x.days(35);
    x.hold(5, 7, -1);
    return x;
  }

  static LoanBook onDay(int day) { return goTo(new LoanBook(), day); }

  static LoanBook goTo(LoanBook x, int day) {
    while (x.count(2) < day) x.days(Math.min(4000, day - x.count(2)));
    return x;
  }

  static void feed(LoanBook x, String text) { for (int i = 0; i < text.length(); i++) x.feed(text.charAt(i)); }

  static int done(LoanBook x, String text) { feed(x, text); return x.script(); }

  /** All that calls tell of a book, then what it does when its TEXT is done, days go and AN IMAGE is laid back. */
  private static List<Long> picture(LoanBook x) {
    List<Long> all = new ArrayList<>();
    lookAtAll(x, all);
    all.add((long) x.script());
    lookAtSums(x, all);
    all.add((long) x.days(14));
    lookAtSums(x, all);
    all.add((long) x.back());
    lookAtSums(x, all);
    all.add((long) x.count(7));
    return all;
  }

  private static void lookAtAll(LoanBook x, List<Long> all) {
    for (int what = 0; what < 8; what++) all.add((long) x.count(what));
    for (int loan = 0; loan < x.count(0); loan++) {
      for (int what = 0; what < 10; what++) all.add((long) x.of(loan, what));
      for (int what = 0; what < 9; what++) all.add(x.sum(loan, what));
      int bills = Math.min(MOST_LOOKED_AT, x.of(loan, 7));
      for (int i = 0; i < bills; i++) for (int what = 0; what < 4; what++) all.add(x.bill(loan, i, what));
      for (int holder = 2; holder < 4; holder++) all.add((long) x.judge(holder, loan));
    }
    for (int holder = 0; holder < 6; holder++) for (int as = 0; as < 4; as++) all.add(x.tells(holder, as));
  }

  private static void lookAtSums(LoanBook x, List<Long> all) {
    for (int what = 0; what < 6; what++) all.add((long) x.count(what));
    for (int loan = 0; loan < x.count(0); loan++) for (int what : new int[] {1, 2, 3, 6}) all.add(x.sum(loan, what));
  }

  static long bits(double d) { return Double.doubleToRawLongBits(d); }
}
