import java.time.LocalDate;

/** Each boundary case that the document names for the calendar and for loans: promises 1 to 13, and their terms. */
public final class EdgesOfLoans extends Edges {
  public static void main(String[] args) {
    newObject(); noLoans();
    dateDays(); dateWhat(); dateLeap(); dateMonths();
    dayOfYears(); dayOfMonths(); dayOfDays();
    interestB(); interestRateAndCount(); interestDays(); interestHalf(); interestThirties(); interestLeap();
    loanNumbers(); loanStart(); loanLent(); loanRate(); loanCount(); loanKmn(); loanState(); loanFull(); loanFirst();
    levelLeast(); levelOthers();
    daysN(); daysState();
    ends(); firstAndLastPeriod(); levelPrincipal(); equalPrincipal(); bulletPrincipal(); nothingToPay(); balanceZeroAhead();
    interestAsItIsThen(); billBehindAll(); graceDays(); graceLeastAndMost(); graceComes(); feeOnce(); feeLeastAndMost(); endsThenFees(); feeOfArrears();
    payRefused(); payCents(); payPrepaid(); payLower(); payGivenBack(); gotOfEach();
    resetRefused(); resetLevel();
    writeOffRefused(); writeOffCents();
    ruleRefused(); ruleInside();
    ofRefused(); ofLate(); ofEnd();
    sumRefused(); sumAtFirst(); sumOwed();
    billRefused(); billPlaces(); billToPayYet();
    end();
  }

  // ---- promise 1

  private static void newObject() {
    says("No LOANS; DAY 0.");
    LoanBook x = new LoanBook();
    int[] want = {0, 0, 0, 10, 500, 0, 0, 0};
    for (int what = 0; what < 8; what++) due("count " + what, x.count(what), want[what]);
    due("the first LOAN", x.loan(1, 0, 0, 1), 0);
    due("its START", x.of(0, 5), 0);
  }

  private static void noLoans() {
    says("LOANS 0 .. 7, as they come");
    for (int loan = 0; loan < 8; loan++) {
      LoanBook x = new LoanBook();
      for (int i = 0; i < loan; i++) x.loan(1, 0, 0, 1);
      due("ahead of LOAN " + loan, x.of(loan, 0), BAD);
      due("LOAN " + loan, x.loan(1, 77, 0, 1), loan);
      due("RATE of LOAN " + loan, x.of(loan, 0), 77);
    }
    due("no days without LOANS", new LoanBook().days(4000), 0);
    due("none is behind", new LoanBook().behind(0), 0);
  }

  // ---- promise 2

  private static void dateDays() {
    says("0 is January 1, 2000; 36524 (December 31, 2099) at most");
    LoanBook x = new LoanBook();
    int[] first = {2000, 1, 1, 1}, last = {2099, 12, 31, 0};
    for (int what = 0; what < 4; what++) {
      int of = what;
      due("day 0, " + what, x.date(0, what), first[what]);
      due("day 36524, " + what, x.date(36524, what), last[what]);
      range("date " + what, Edges::rich, (y, day) -> y.date(day, of), 0, LAST_DAY, BAD);
    }
  }

  private static void dateWhat() {
    says("Of a day: year (what 0), month (1; 1 .. 12), day of the month (2), whether the year is a leap year (3). BAD.");
    range("what", Edges::rich, (y, what) -> y.date(59, what), 0, 3, BAD);
    int[] want = {2000, 2, 29, 1};
    for (int what = 0; what < 4; what++) due("what " + what, new LoanBook().date(59, what), want[what]);
    due("month 12", new LoanBook().date(365, 1), 12);
    due("month 1", new LoanBook().date(366, 1), 1);
  }

  private static void dateLeap() {
    says("leap years: those that 4 divides, 2000 too");
    int first = 0;
    for (int year = 2000; year <= 2099; year++) {
      LoanBook x = new LoanBook();
      int length = year % 4 == 0 ? 366 : 365;
      for (int day : new int[] {first, first + length - 1}) {
        due("year of day " + day, x.date(day, 0), year);
        due("leap " + year, x.date(day, 3), year % 4 == 0 ? 1 : 0);
      }
      due("its first", x.date(first, 1) * 100 + x.date(first, 2), 101);
      due("its last", x.date(first + length - 1, 1) * 100 + x.date(first + length - 1, 2), 1231);
      due("behind February 28, " + year, x.date(first + 59, 1) * 100 + x.date(first + 59, 2), year % 4 == 0 ? 229 : 301);
      first += length;
    }
    due("the days of all years", first, 36525);
  }

  private static void dateMonths() {
    says("Dates by the calendar as it is");
    for (int year : new int[] {2000, 2001, 2003, 2096, 2099}) {
      LoanBook x = new LoanBook();
      for (int month = 1; month <= 12; month++) {
        int length = LocalDate.of(year, month, 1).lengthOfMonth(), first = x.dayOf(year, month, 1);
        due("first of " + year + " " + month, x.date(first, 1) * 100 + x.date(first, 2), month * 100 + 1);
        int last = first + length - 1;
        due("last of " + year + " " + month, x.date(last, 1) * 100 + x.date(last, 2), month * 100 + length);
      }
    }
  }

  // ---- promise 3

  private static void dayOfYears() {
    says("The day of a date (2000 .. 2099).");
    due("the first", new LoanBook().dayOf(2000, 1, 1), 0);
    due("the last", new LoanBook().dayOf(2099, 12, 31), 36524);
    range("year", Edges::rich, (x, year) -> x.dayOf(year, 6, 15), 2000, 2099, BAD);
    refused("the day ahead of the first", Edges::rich, x -> x.dayOf(1999, 12, 31), BAD);
    refused("the day behind the last", Edges::rich, x -> x.dayOf(2100, 1, 1), BAD);
    refused("a leap day that would be", Edges::rich, x -> x.dayOf(2100, 2, 29), BAD);
  }

  private static void dayOfMonths() {
    says("BAD: there is none such.");
    range("month", Edges::rich, (x, month) -> x.dayOf(2004, month, 1), 1, 12, BAD);
    range("month", Edges::rich, (x, month) -> x.dayOf(2099, month, 31), 1, 12, BAD);
    refused("month 0 of a year with one ahead", Edges::rich, x -> x.dayOf(2001, 0, 31), BAD);
    refused("month 13 of a year with one behind", Edges::rich, x -> x.dayOf(2001, 13, 1), BAD);
  }

  private static void dayOfDays() {
    says("leap years: those that 4 divides, 2000 too");
    for (int year : new int[] {2000, 2001, 2004, 2096, 2097, 2099}) {
      for (int month = 1; month <= 12; month++) {
        LoanBook x = new LoanBook();
        int length = LocalDate.of(year, month, 1).lengthOfMonth(), first = x.dayOf(year, month, 1);
        due("day 0 of " + year + " " + month, x.dayOf(year, month, 0), BAD);
        due("its last", x.dayOf(year, month, length), first + length - 1);
        due("one more", x.dayOf(year, month, length + 1), BAD);
        due("the last day's number", x.date(first + length - 1, 2), length);
      }
    }
    range("day of February 2000", Edges::rich, (x, day) -> x.dayOf(2000, 2, day), 1, 29, BAD);
    range("day of February 2001", Edges::rich, (x, day) -> x.dayOf(2001, 2, day), 1, 28, BAD);
  }

  // ---- promise 4

  private static void interestB() {
    says("BAD (b 0 .. 100,000,000, rate, count; days, e below d).");
    longRange("b", Edges::rich, (x, b) -> x.interest(b, 5000, 1, 0, 360), 0, 100000000, BAD);
    LoanBook x = new LoanBook();
    due("b 0", x.interest(0, 5000, 1, 0, 360), 0);
    due("b 1, one year at 50 of a hundred: half a cent", x.interest(1, 5000, 1, 0, 360), 1);
    due("b at most", x.interest(100000000, 5000, 1, 0, 360), 50000000);
  }

  private static void interestRateAndCount() {
    says("RATE (0 .. 5000; hundredths of one of a hundred a year), COUNT 0 .. 3");
    range("rate", Edges::rich, (x, rate) -> x.interest(10000, rate, 1, 0, 360), 0, 5000, BAD);
    range("count", Edges::rich, (x, count) -> x.interest(10000, 100, count, 0, 360), 0, 3, BAD);
    LoanBook x = new LoanBook();
    due("rate 0", x.interest(100000000, 0, 1, 0, LAST_DAY), 0);
    due("rate 1", x.interest(100000000, 1, 1, 0, 360), 10000);
    due("rate 5000", x.interest(10000, 5000, 1, 0, 360), 5000);
    long[] want = {36000000, 36600000, 36098630, 36000000};
    for (int count = 0; count < 4; count++) due("a leap year, count " + count, x.interest(72000000, 5000, count, 0, 366), want[count]);
  }

  private static void interestDays() {
    says("days, e below d");
    range("d", Edges::rich, (x, d) -> x.interest(1000, 100, 1, d, LAST_DAY), 0, LAST_DAY, BAD);
    range("e", Edges::rich, (x, e) -> x.interest(1000, 100, 1, 0, e), 0, LAST_DAY, BAD);
    range("e behind d 700", Edges::rich, (x, e) -> x.interest(1000, 100, 3, 700, e), 700, LAST_DAY, BAD);
    for (int count = 0; count < 4; count++) {
      LoanBook x = new LoanBook();
      due("day 0 to itself", x.interest(100000000, 5000, count, 0, 0), 0);
      due("day 36524 to itself", x.interest(100000000, 5000, count, LAST_DAY, LAST_DAY), 0);
      due("a day less", x.interest(100000000, 5000, count, LAST_DAY, LAST_DAY - 1), BAD);
      long[] most = {4999861111L, 5072777778L, 5003287671L, 4999863014L};
      due("the most there is", x.interest(100000000, 5000, count, 0, LAST_DAY), most[count]);
    }
    due("both beyond", new LoanBook().interest(1, 1, 1, 36525, 36525), BAD);
    due("both below", new LoanBook().interest(1, 1, 1, -1, -1), BAD);
  }

  private static void interestHalf() {
    says("to the nearest cent (half a cent: up)");
    LoanBook x = new LoanBook();
    // Of one day at 10 of a hundred a year half a cent is 1800 cents by 360, 1825 by 365 and 1830 by 366.
    int[][] half = {{0, 0, 1800}, {1, 0, 1800}, {2, 0, 1825}, {3, 0, 1830}, {3, 366, 1825}};
    for (int[] h : half) {
      due("just below half a cent, count " + h[0], x.interest(h[2] - 1, 1000, h[0], h[1], h[1] + 1), 0);
      due("half a cent, count " + h[0], x.interest(h[2], 1000, h[0], h[1], h[1] + 1), 1);
      due("just below one and a half, count " + h[0], x.interest(3 * h[2] - 1, 1000, h[0], h[1], h[1] + 1), 1);
      due("one and a half, count " + h[0], x.interest(3 * h[2], 1000, h[0], h[1], h[1] + 1), 2);
      due("just above one, count " + h[0], x.interest(2 * h[2] + 1, 1000, h[0], h[1], h[1] + 1), 1);
    }
  }

  private static void interestThirties() {
    says("360 times the years between, 30 times the months, and the days (of day 31: 30)");
    LoanBook x = new LoanBook();
    int[][] dates = {{130, 131, 0}, {131, 201, 1}, {130, 201, 1}, {131, 228, 28}, {131, 331, 60}, {131, 330, 60}, {228, 301, 3}, {228, 331, 32}, {229, 301, 2},
        {331, 430, 30}, {331, 531, 60}, {829, 831, 1}, {101, 131, 29}, {101, 201, 30}, {101, 1231, 359}, {1230, 1231, 0}};
    for (int[] d : dates) {
      int year = d[0] == 229 ? 2004 : 2001;
      int from = x.dayOf(year, d[0] / 100, d[0] % 100), to = x.dayOf(year, d[1] / 100, d[1] % 100);
      due(d[0] + " to " + d[1], x.interest(3600000, 1, 0, from, to), d[2]);
    }
    due("December 31 to January 1", x.interest(3600000, 1, 0, x.dayOf(2001, 12, 31), x.dayOf(2002, 1, 1)), 1);
    due("December 30 to January 31", x.interest(3600000, 1, 0, x.dayOf(2001, 12, 30), x.dayOf(2002, 1, 31)), 30);
    due("all the years", x.interest(3600000, 1, 0, 0, LAST_DAY), 99 * 360 + 11 * 30 + 29);
  }

  private static void interestLeap() {
    says("days (d itself, not e) in leap years by 366, the others by 365, together");
    LoanBook x = new LoanBook();
    due("December 31, 2000 is in a leap year", x.interest(36600000, 100, 3, 365, 366), 1000);
    due("January 1, 2001 is not", x.interest(36500000, 100, 3, 366, 367), 1000);
    due("December 31, 2003 is not", x.interest(36500000, 100, 3, 1460, 1461), 1000);
    due("January 1, 2004 is", x.interest(36600000, 100, 3, 1461, 1462), 1000);
    due("one of each", x.interest(36500 * 366, 100, 3, 365, 367), 366 + 365);
    // A quarter of a cent by each of the two, and a little more or less: rounded once, together.
    due("together, half a cent is up", x.interest(914, 1000, 3, 365, 367), 1);
    due("together, less than half a cent", x.interest(913, 1000, 3, 365, 367), 0);
  }

  // ---- promise 5

  private static void loanNumbers() {
    says("A LOAN (kmn: 1000 KIND, 100 MODE, and PERIODS): its number.");
    for (int kind = 0; kind < 3; kind++) for (int mode = 0; mode < 2; mode++) for (int periods : new int[] {1, 60}) {
      LoanBook x = new LoanBook();
      due("its number", x.loan(5, 5, 3, 1000 * kind + 100 * mode + periods), 0);
      int[] want = {5, 3, kind, periods, mode, 0, 0, 0, 0, 31};
      for (int what = 0; what < 10; what++) due("of " + what, x.of(0, what), want[what]);
    }
  }

  private static void loanStart() {
    says("START: DAY as it comes.");
    for (int day : new int[] {0, 1, 30, 59, 365, 36463, 36493}) {
      LoanBook x = onDay(day);
      x.loan(3600000, 1, 1, 2001);
      due("START on day " + day, x.of(0, 5), day);
      due("INTEREST of the days from there", x.toCome(0, 0, 1), x.of(0, 9) - day);
      goTo(x, LAST_DAY);
      due("START stays", x.of(0, 5), day);
    }
  }

  private static void loanLent() {
    says("LENT (1 .. 100,000,000)");
    longRange("lent", Edges::rich, (x, lent) -> x.loan(lent, 100, 0, 12), 1, 100000000, BAD);
    for (long lent : new long[] {1, 100000000}) {
      LoanBook x = new LoanBook();
      due("lent " + lent, x.loan(lent, 5000, 1, 60), 0);
      due("LENT", x.sum(0, 0), lent);
      due("BALANCE", x.sum(0, 1), lent);
    }
  }

  private static void loanRate() {
    says("RATE (0 .. 5000; hundredths of one of a hundred a year)");
    range("rate", Edges::rich, (x, rate) -> x.loan(1000, rate, 0, 12), 0, 5000, BAD);
    LoanBook x = new LoanBook();
    x.loan(1000, 0, 0, 2001);
    x.loan(1000, 5000, 0, 2012);
    due("no INTEREST", x.sum(0, 8), 0);
    due("half a year's BALANCE is a year's INTEREST, to the cents of its months", x.sum(1, 8), 12 * 42);
  }

  private static void loanCount() {
    says("COUNT 0 .. 3");
    range("count", Edges::rich, (x, count) -> x.loan(1000, 1, count, 12), 0, 3, BAD);
    long[] want = {30, 31, 31, 31};
    long[] lent = {3600000, 3600000, 3650000, 3660000};
    for (int count = 0; count < 4; count++) {
      LoanBook x = new LoanBook();
      x.loan(lent[count], 1, count, 2001);
      due("INTEREST of January, count " + count, x.toCome(0, 0, 1), want[count]);
    }
  }

  private static void loanKmn() {
    says("KIND 0 LEVEL, 1 EQUAL, 2 BULLET, PERIODS n (1 .. 60), MODE 0 SHORTEN, 1 LOWER");
    for (int head : new int[] {0, 100, 1000, 1100, 2000, 2100}) range("PERIODS of " + head, Edges::rich, (x, kmn) -> x.loan(1000, 1, 0, kmn), head + 1, head + 60, BAD);
    for (int kmn : new int[] {99, 199, 200, 201, 260, 901, 999, 1201, 1901, 2201, 2260, 2999, 3001, 3101, 10001, -99, -999, -1001, -900, -940, -2099}) refused("kmn " + kmn, Edges::rich, x -> x.loan(1000, 1, 0, kmn), BAD);
  }

  private static void loanState() {
    says("STATE: its last END is beyond 36524");
    int november30 = 36493, december1 = 36494, october31 = 36463;
    LoanBook x = onDay(october31);
    refused("from October 31, 2099: January 31 is 31 days beyond", () -> onDay(october31), y -> y.loan(5, 0, 0, 3), STATE);
    due("December 31 is the last day", x.loan(5, 0, 0, 2), 0);
    due("its last END", x.toCome(0, 0, 0) + x.settles(0), 36493 + 61);
    due("it ends", goTo(x, LAST_DAY).of(0, 6), 2);
    due("November 30: one PERIOD", onDay(november30).loan(5, 0, 0, 1), 0);
    refused("November 30: two", () -> onDay(november30), y -> y.loan(5, 0, 0, 2), STATE);
    refused("December 1: a day beyond", () -> onDay(december1), y -> y.loan(5, 0, 0, 1), STATE);
    refused("on the last day", () -> onDay(LAST_DAY), y -> y.loan(5, 0, 0, 1), STATE);
    int december31of2094 = new LoanBook().dayOf(2094, 12, 31);
    due("sixty PERIODS up to the last day", onDay(december31of2094).loan(5, 0, 0, 60), 0);
    refused("sixty, a day later", () -> onDay(december31of2094 + 1), y -> y.loan(5, 0, 0, 60), STATE);
    due("fifty-nine, a day later", onDay(december31of2094 + 1).loan(5, 0, 0, 59), 0);
  }

  private static void loanFull() {
    says("FULL: 8.");
    refused("the ninth", Edges::full, x -> x.loan(5, 5, 2, 101), FULL);
    LoanBook x = new LoanBook();
    for (int i = 0; i < 8; i++) due("LOAN " + i, x.loan(5, 5, 2, 101), i);
    due("the ninth", x.loan(5, 5, 2, 101), FULL);
    for (int i = 0; i < 8; i++) x.pay(i, 5);
    due("those that are repaid count too", x.loan(5, 5, 2, 101), FULL);
  }

  private static void loanFirst() {
    says("Answers, of several the one named first");
    refused("BAD ahead of FULL", Edges::full, x -> x.loan(0, 5, 2, 101), BAD);
    refused("BAD ahead of STATE", () -> onDay(LAST_DAY), x -> x.loan(0, 5, 2, 101), BAD);
    refused("STATE ahead of FULL", () -> goTo(full(), LAST_DAY), x -> x.loan(5, 5, 2, 101), STATE);
    refused("BAD ahead of both", () -> goTo(full(), LAST_DAY), x -> x.loan(5, 5, 2, 161), BAD);
  }

  /** Whether an amount repays a new LOAN of so much, from day 0 on, worked by interest() and dayOf(). */
  private static boolean repays(long amount, long lent, int rate, int count, int periods) {
    LoanBook x = new LoanBook();
    long left = lent;
    for (int k = 1; k <= periods; k++) {
      int from = x.dayOf(2000 + (k - 1) / 12, 1 + (k - 1) % 12, 1), to = x.dayOf(2000 + k / 12, 1 + k % 12, 1);
      long principal = amount - x.interest(left, rate, count, from, to);
      left -= principal < 0 ? 0 : principal > left ? left : principal;
    }
    return left == 0;
  }

  private static void levelLeast() {
    says("the least A (0 .. 200,000,000) by which");
    int[][] loans = {{1, 0, 0, 1}, {1, 0, 0, 60}, {1, 5000, 1, 60}, {59, 0, 2, 60}, {60, 0, 2, 60}, {61, 0, 2, 60}, {12, 5000, 0, 2}, {100000, 1200, 0, 3}, {100000000, 0, 3, 1},
        {100000000, 0, 3, 60}, {100000000, 5000, 0, 1}, {100000000, 5000, 1, 1}, {100000000, 5000, 2, 2}, {100000000, 5000, 3, 60}, {99999999, 4999, 1, 59}};
    for (int[] l : loans) {
      LoanBook x = new LoanBook();
      x.loan(l[0], l[1], l[2], l[3]);
      long level = x.sum(0, 2);
      due("LEVEL " + level + " repays", repays(level, l[0], l[1], l[2], l[3]) ? 1 : 0, 1);
      due("a cent less than " + level + " does", repays(level - 1, l[0], l[1], l[2], l[3]) ? 1 : 0, 0);
    }
    LoanBook x = new LoanBook();
    x.loan(61, 0, 2, 60);
    due("61 by 60", x.sum(0, 2), 2);
    x.loan(60, 0, 2, 60);
    due("60 by 60", x.sum(1, 2), 1);
    x.loan(100000000, 5000, 1, 1);
    due("the greatest there is", x.sum(2, 2), 104305556);
  }

  private static void levelOthers() {
    says("Each LOAN has a LEVEL (EQUAL, BULLET: 0), found as it comes, and anew as told.");
    for (int kind : new int[] {1000, 1100, 2000, 2100}) {
      LoanBook x = three(kind);
      due("as it comes", x.sum(0, 2), 0);
      due("RESET", x.reset(0, 5000), 0);
      x.pay(0, 1000);
      due("PREPAID", x.sum(0, 2), 0);
    }
  }

  // ---- promise 6

  private static void daysN() {
    says("n DAYS (1 .. 4000) go: how many BILLS came.");
    range("n", Edges::rich, (x, n) -> x.days(n), 1, 4000, BAD);
    LoanBook x = new LoanBook();
    x.days(1);
    due("one", x.count(2), 1);
    x.days(4000);
    due("and 4000", x.count(2), 4001);
    due("BILLS of eight LOANS, LOAN by LOAN and all", full().days(4000), 2 + 3 + 4 + 5 + 6 + 7 + 8 + 9);
  }

  private static void daysState() {
    says("STATE: beyond 36524.");
    for (int left : new int[] {0, 1, 3999}) {
      refused("a day more than are left: " + left, () -> onDay(LAST_DAY - left), x -> x.days(left + 1), STATE);
      if (left == 0) continue;
      LoanBook x = onDay(LAST_DAY - left);
      due("all that are left", x.days(left), 0);
      due("DAY", x.count(2), LAST_DAY);
    }
    LoanBook all = onDay(LAST_DAY - 4000);
    due("4000 are left", all.days(4000), 0);
    refused("4000 on the last day", () -> onDay(LAST_DAY), x -> x.days(4000), STATE);
    refused("BAD is named first", () -> onDay(LAST_DAY), x -> x.days(4001), BAD);
    refused("BAD is named first", () -> onDay(LAST_DAY), x -> x.days(0), BAD);
  }

  private static void ends() {
    says("k months behind START, its day of the month (the month's last, if that has less)");
    int[][] starts = {{2000, 1, 31}, {2001, 1, 31}, {2001, 1, 30}, {2001, 1, 29}, {2001, 1, 28}, {2003, 12, 31}, {2004, 2, 29}, {2001, 3, 31}, {2001, 8, 31}, {2001, 12, 1}, {2095, 1, 30}};
    for (int[] s : starts) {
      LocalDate start = LocalDate.of(s[0], s[1], s[2]);
      LoanBook x = onDay(new LoanBook().dayOf(s[0], s[1], s[2]));
      x.loan(6000, 1200, 0, 1059);
      for (int k = 1; k <= 59; k++) {
        LocalDate end = start.plusMonths(k);
        due(start + ", END " + k, x.toCome(0, k - 1, 0), x.dayOf(end.getYear(), end.getMonthValue(), end.getDayOfMonth()));
      }
    }
    LoanBook x = onDay(30);
    x.loan(6000, 1200, 0, 1013);
    due("January 31: February 29", x.of(0, 9), 59);
    x.days(29);
    due("then March 31", x.of(0, 9), 90);
    due("of a month with 30: its last", x.toCome(0, 1, 0), 120);
    due("February 28, 2001", x.toCome(0, 11, 0), 366 + 58);
  }

  private static void firstAndLastPeriod() {
    says("When DAY comes to the END of a PERIOD");
    for (int kind : new int[] {0, 1000, 2000}) {
      LoanBook x = three(kind);
      due("a day ahead of the first END", x.days(30), 0);
      due("DONE", x.of(0, 6), 0);
      due("the first END", x.days(1), 1);
      due("DONE", x.of(0, 6), 1);
      due("the second, one by one", x.days(28) * 10 + x.days(1), 1);
      due("a day ahead of the last END", x.days(30), 0);
      due("DONE", x.of(0, 6), 2);
      due("BALANCE", x.sum(0, 1) > 0 ? 1 : 0, 1);
      due("the last END", x.days(1), 1);
      due("DONE", x.of(0, 6), 3);
      due("all of BALANCE", x.sum(0, 1), 0);
      due("no more", x.days(4000), 0);
      due("DONE", x.of(0, 6), 3);
      due("PRINCIPALS", x.bill(0, 0, 2) + x.bill(0, 1, 2) + x.bill(0, 2, 2), 100000);
    }
    LoanBook one = new LoanBook();
    one.loan(500, 0, 0, 2001);
    due("first and last at once", one.days(31), 1);
    due("all of BALANCE", one.bill(0, 0, 2), 500);
    LoanBook last = onDay(36463);
    last.loan(500, 1200, 0, 2);
    last.days(60);
    due("a day ahead of the last day", last.of(0, 6), 1);
    due("the last day is an END", last.days(1), 1);
    due("its day", last.bill(0, 1, 0), LAST_DAY);
  }

  private static void levelPrincipal() {
    says("LEVEL less INTEREST (0 at least, BALANCE at most)");
    LoanBook x = three(0);
    x.pay(0, 33000);
    due("INTEREST 670, PRINCIPAL 33333", x.toCome(0, 0, 1) + x.toCome(0, 0, 2), 34003);
    due("INTEREST 337: a cent less than BALANCE, which is 33667", x.toCome(0, 1, 2), 33666);
    due("that cent", x.toCome(0, 2, 2), 1);
    x.pay(0, 33000);
    due("34000 and 340 are 34340: not whole", x.toCome(0, 0, 2), 33663);
    x.pay(0, 334);
    due("33666 and 337: just LEVEL", x.toCome(0, 0, 1) + x.toCome(0, 0, 2), 34003);
    due("one comes", x.coming(0, 0), 1);
    x.pay(0, 1);
    due("33665 and 337: BALANCE at most", x.toCome(0, 0, 2), 33665);
    x.days(31);
    due("so it comes", x.bill(0, 0, 2), 33665);
    due("BALANCE", x.sum(0, 1), 0);
    LoanBook low = new LoanBook();
    low.loan(12, 5000, 0, 60);
    due("LEVEL above INTEREST by a cent", low.sum(0, 2), 2);
    due("INTEREST of half a cent", low.toCome(0, 0, 1), 1);
    due("PRINCIPAL", low.toCome(0, 0, 2), 1);
  }

  private static void equalPrincipal() {
    says("EQUAL: BALANCE by the PERIODS left, it too, cut");
    long[][] want = {{100, 33, 33, 34}, {2, 0, 1, 1}, {1, 0, 0, 1}, {3, 1, 1, 1}, {5, 1, 2, 2}};
    for (long[] w : want) {
      LoanBook x = new LoanBook();
      x.loan(w[0], 0, 0, 1003);
      long left = w[0];
      for (int k = 1; k <= 3; k++) {
        x.days(k == 2 ? 29 : 31);
        left -= w[k];
        due(w[0] + " by 3, PERIOD " + k, x.sum(0, 1), left);
      }
    }
  }

  private static void bulletPrincipal() {
    says("BULLET: 0; of the last PERIOD: all of BALANCE");
    LoanBook x = new LoanBook();
    x.loan(36000, 1200, 0, 2060);
    due("all but the last", x.days(x.settles(0) - 1), 59);
    for (int i = 0; i < 59; i++) due("PRINCIPAL " + i, x.bill(0, i, 2), 0);
    due("BALANCE", x.sum(0, 1), 36000);
    due("the last", x.days(1), 1);
    due("its PRINCIPAL", x.bill(0, 59, 2), 36000);
    due("its INTEREST", x.bill(0, 59, 1), 360);
    due("BALANCE", x.sum(0, 1), 0);
  }

  private static void nothingToPay() {
    says("A BILL with nothing to pay doesn't come.");
    LoanBook x = new LoanBook();
    x.loan(1799, 100, 0, 2002);
    x.loan(600, 100, 0, 2002);
    x.loan(599, 100, 0, 2002);
    x.loan(1, 0, 0, 1060);
    x.loan(1, 0, 0, 60);
    due("INTEREST of half a cent comes, less doesn't; a cent by 60 doesn't, LEVEL 1 does", x.days(31), 3);
    int[] bills = {1, 1, 0, 0, 1};
    for (int loan = 0; loan < 5; loan++) {
      due("BILLS of LOAN " + loan, x.of(loan, 7), bills[loan]);
      due("DONE of LOAN " + loan, x.of(loan, 6), 1);
    }
    due("1 cent of INTEREST alone", x.bill(1, 0, 1) * 10 + x.bill(1, 0, 2), 10);
    due("then it is due in any case", x.days(29), 3);
    x.days(4000);
    due("the cent by 60, in the last PERIOD", x.bill(3, 0, 2), 1);
    due("its day", x.bill(3, 0, 0), x.dayOf(2005, 1, 1));
  }

  private static void balanceZeroAhead() {
    says("If BALANCE is 0 ahead, PERIODS go by without BILLS.");
    for (int kind : new int[] {0, 100, 1000, 2000}) {
      LoanBook x = three(kind);
      x.pay(0, 100000);
      LoanBook cent = three(kind);
      cent.pay(0, 99999);
      due("no BILL", x.days(31), 0);
      due("DONE all the same", x.of(0, 6), 1);
      due("END of the next", x.of(0, 9), 60);
      due("none, to the last", x.days(60), 0);
      due("DONE", x.of(0, 6), 3);
      due("a cent of BALANCE: a BILL", cent.days(91), 1);
      due("a cent", cent.sum(0, 3) % 500, 1);
    }
  }

  private static void interestAsItIsThen() {
    says("its INTEREST is that of BALANCE from the END ahead (START) by RATE as it is then");
    LoanBook x = three(2000);
    x.days(30);
    x.reset(0, 2400);
    x.pay(0, 50000);
    x.days(1);
    due("of all the first PERIOD, from START", x.bill(0, 0, 1), 1000);
    x.reset(0, 1200);
    x.days(29);
    due("of the second, from the END ahead", x.bill(0, 1, 1), 500);
    x.reset(0, 0);
    x.days(31);
    due("none by RATE 0", x.bill(0, 2, 1), 0);
  }

  private static void billBehindAll() {
    says("a BILL (its day, INTEREST, PRINCIPAL, FEE 0) comes to the LOAN's ARREARS, behind all; DONE is 1 more");
    LoanBook x = three(0);
    long[] want = {31, 1000, 33003, 0, 60, 670, 33333, 0, 91, 337, 33664, 0};
    for (int k = 0; k < 3; k++) {
      goTo(x, (int) want[4 * k]);
      due("BILLS", x.of(0, 7), k + 1);
      due("DONE", x.of(0, 6), k + 1);
      for (int what = 0; what < 4; what++) due("the last, " + what, x.bill(0, k, what), want[4 * k + what]);
      due("the first", x.bill(0, 0, 0), 31);
    }
    LoanBook paid = three(0);
    paid.days(31);
    paid.pay(0, 34003);
    paid.days(29);
    due("behind none: the first", paid.bill(0, 0, 0), 60);
  }

  private static void graceDays() {
    says("GRACE: 10 days (0 .. 90): a BILL in ARREARS that is as many days old as GRACE (DAY comes to that)");
    for (int grace : new int[] {10, 0, 1, 29, 89, 90}) {
      LoanBook x = three(0);
      x.rule(0, grace);
      x.days(30);
      if (grace > 0) {
        x.days(grace);
        due("a day younger than " + grace, x.bill(0, 0, 3), 0);
      }
      x.days(1);
      due("as old as " + grace, x.bill(0, 0, 3), 500);
      due("FEES GOT", x.sum(0, 4), 0);
      x.days(1);
      due("older than " + grace, x.bill(0, 0, 3), 500);
    }
    LoanBook last = onDay(36463);
    last.rule(0, 31);
    last.loan(500, 1200, 0, 2);
    last.days(60);
    due("a day ahead of the last", last.bill(0, 0, 3), 0);
    last.days(1);
    due("on the last day of all", last.bill(0, 0, 3), 500);
  }

  private static void graceLeastAndMost() {
    says("Days go one by one; on each, first the ENDS of LOANS, by numbers, then FEES, by LOANS and BILLS.");
    for (int n : new int[] {1, 2, 7, 30}) {
      LoanBook one = full(), some = full();
      for (int i = 0; i < 210; i++) one.days(1);
      for (int i = 0; i < 210 / n; i++) some.days(n);
      for (int loan = 0; loan < 8; loan++) {
        due("OWED of LOAN " + loan, some.sum(loan, 3), one.sum(loan, 3));
        due("BILLS of LOAN " + loan, some.of(loan, 7), one.of(loan, 7));
      }
    }
  }

  private static void graceComes() {
    says("(DAY comes to that)");
    LoanBook x = three(0);
    x.rule(0, 90);
    x.days(40);
    x.rule(0, 9);
    due("nine days old as GRACE becomes 9: DAY does not come to that", x.bill(0, 0, 3), 0);
    x.days(1);
    due("ten days old, GRACE 9", x.bill(0, 0, 3), 0);
    x.rule(0, 11);
    x.days(1);
    due("eleven days old, GRACE 11", x.bill(0, 0, 3), 500);
    LoanBook y = three(0);
    y.rule(0, 90);
    y.days(40);
    y.rule(0, 8);
    y.days(20);
    due("past GRACE", y.bill(0, 0, 3), 0);
  }

  private static void feeOnce() {
    says("has LATE FEE (500 cents; 0 .. 10000) as its FEE, once");
    LoanBook x = three(0);
    x.days(41);
    x.rule(0, 11);
    x.rule(1, 700);
    x.days(1);
    due("as old as GRACE again", x.bill(0, 0, 3), 500);
    x.pay(0, 500);
    x.rule(0, 12);
    x.days(1);
    due("its FEE is paid: none again", x.bill(0, 0, 3), 0);
    x.days(29);
    due("the next BILL has one of its own", x.bill(0, 1, 3), 700);
    LoanBook zero = three(0);
    zero.rule(1, 0);
    zero.days(41);
    zero.rule(0, 11);
    zero.rule(1, 500);
    zero.days(1);
    due("a FEE of 0 was its FEE", zero.bill(0, 0, 3), 0);
  }

  private static void feeLeastAndMost() {
    says("LATE FEE (500 cents; 0 .. 10000)");
    for (int fee : new int[] {0, 1, 10000}) {
      LoanBook x = three(0);
      x.days(40);
      x.rule(1, fee);
      x.days(1);
      due("FEE", x.bill(0, 0, 3), fee);
      due("OWED", x.sum(0, 3), 34003 + fee);
      x.rule(1, 600);
      due("it stays", x.bill(0, 0, 3), fee);
    }
  }

  private static void endsThenFees() {
    says("on each, first the ENDS of LOANS, by numbers, then FEES, by LOANS and BILLS");
    LoanBook x = full();
    x.rule(0, 0);
    x.days(25);
    for (int loan = 0; loan < 8; loan++) {
      due("the BILL of the day has its FEE at once, LOAN " + loan, x.bill(loan, 1, 3), 500);
      due("the one ahead has none", x.bill(loan, 0, 3), 0);
    }
    LoanBook y = three(0);
    y.rule(0, 29);
    y.days(60);
    due("an END and a FEE on one day: the old BILL", y.bill(0, 0, 3), 500);
    due("the new one", y.bill(0, 1, 3), 0);
  }

  private static void feeOfArrears() {
    says("a BILL in ARREARS");
    LoanBook x = three(0);
    x.days(40);
    x.pay(0, 34002);
    x.days(1);
    due("a cent is left of it: FEE", x.bill(0, 0, 3), 500);
    due("OWED", x.sum(0, 3), 501);
    LoanBook y = three(0);
    y.days(40);
    y.pay(0, 34003);
    y.days(1);
    due("nothing is left of it", y.sum(0, 3), 0);
    due("no BILL", y.of(0, 7), 0);
    LoanBook z = three(0);
    z.days(41);
    z.pay(0, 34503);
    due("paid with its FEE", z.of(0, 7), 0);
  }

  // ---- promise 7

  private static void payRefused() {
    says("BAD (LOAN, amount 1 .. 1,000,000,000).");
    noSuchLoan((x, loan) -> x.pay(loan, 1), BAD);
    for (int loan = 0; loan < 4; loan++) {
      int of = loan;
      longRange("amount to LOAN " + loan, Edges::rich, (x, amount) -> x.pay(of, amount), 1, 1000000000, BAD);
    }
    LoanBook x = three(0);
    due("one cent", x.pay(0, 1), 0);
    due("BALANCE", x.sum(0, 1), 99999);
    due("all there may be", x.pay(0, 1000000000), 1000000000 - 99999);
  }

  /** Two BILLS with FEES, then BALANCE: amounts a cent below, at and above each place where a part is paid. */
  private static void payCents() {
    says("BILL by BILL, the oldest first: its FEE, its INTEREST, its PRINCIPAL, as far as the amount goes");
    long[] parts = {500, 1000, 33003, 500, 670, 33333, 33664};
    int[] sums = {4, 5, 6, 4, 5, 6, 6}, whats = {3, 1, 2, 3, 1, 2};
    long upTo = 0;
    for (long part : parts) {
      upTo += part;
      for (long amount = upTo - 1; amount <= upTo + 1; amount++) {
        LoanBook x = three(0);
        x.days(75);
        long left = amount;
        long[] paid = new long[7], got = new long[7];
        for (int i = 0; i < 7; i++) { paid[i] = Math.min(left, parts[i]); left -= paid[i]; got[sums[i]] += paid[i]; }
        due("given back of " + amount, x.pay(0, amount), left);
        for (int i = 4; i < 7; i++) due("GOT of " + amount + ", " + i, x.sum(0, i), got[i]);
        due("BALANCE behind " + amount, x.sum(0, 1), parts[6] - paid[6]);
        int gone = amount < 34503 ? 0 : amount < 69006 ? 1 : 2;
        due("BILLS behind " + amount, x.of(0, 7), 2 - gone);
        for (int i = 3 * gone; i < 6; i++) due("part " + i + " behind " + amount, x.bill(0, i / 3 - gone, whats[i]), parts[i] - paid[i]);
      }
    }
    says("a BILL that is paid is no more");
    LoanBook x = three(0);
    x.days(75);
    x.pay(0, 34503);
    due("the second is the first now", x.bill(0, 0, 0), 60);
    due("no second", x.bill(0, 1, 0), NOT);
  }

  private static void payPrepaid() {
    says("What is left goes to BALANCE, as far as that goes (PREPAID)");
    for (int kind : new int[] {0, 100, 1000, 1100, 2000, 2100}) {
      LoanBook x = three(kind);
      x.days(31);
      long owed = x.sum(0, 3), balance = x.sum(0, 1);
      due("ARREARS but a cent", x.pay(0, owed - 1), 0);
      due("BALANCE", x.sum(0, 1), balance);
      due("the cent and one of BALANCE", x.pay(0, 2), 0);
      due("BALANCE", x.sum(0, 1), balance - 1);
      due("all the rest", x.pay(0, balance - 1), 0);
      due("BALANCE", x.sum(0, 1), 0);
    }
  }

  private static void gotOfEach() {
    says("GOT: FEES, INTEREST, PRINCIPAL (with PREPAID) that were paid, of each LOAN; LOST: PRINCIPAL written off.");
    LoanBook x = new LoanBook();
    for (int i = 0; i < 8; i++) x.loan(100000, 1200, 0, 3);
    x.days(41);
    for (int i = 0; i < 8; i++) x.pay(i, 1500 + 33003 + i);
    x.writeOff(7);
    for (int i = 0; i < 8; i++) {
      due("FEES of LOAN " + i, x.sum(i, 4), 500);
      due("INTEREST of LOAN " + i, x.sum(i, 5), 1000);
      due("PRINCIPAL of LOAN " + i, x.sum(i, 6), 33003 + i);
      due("LOST of LOAN " + i, x.sum(i, 7), i < 7 ? 0 : 66997 - 7);
    }
  }

  private static void payLower() {
    says("if that is above 0, by LOWER, if KIND is LEVEL and BALANCE isn't 0, LEVEL is found anew");
    LoanBook x = three(100);
    x.days(31);
    x.reset(0, 1200);
    long level = x.sum(0, 2);
    x.pay(0, 34003);
    due("just ARREARS: nothing PREPAID", x.sum(0, 2), level);
    x.pay(0, 66996 - 600);
    due("BALANCE 601 of two PERIODS: 6 + 299, 3 + 302", x.sum(0, 2), 305);
    x.pay(0, 600);
    due("BALANCE of a cent", x.sum(0, 1) * 10 + x.sum(0, 2), 11);
    x.pay(0, 1);
    due("BALANCE 0: as it was", x.sum(0, 1) * 10 + x.sum(0, 2), 1);
    LoanBook all = three(100);
    all.pay(0, 100000);
    due("all at once: as it was", all.sum(0, 2), 34003);
    LoanBook cent = new LoanBook();
    cent.loan(3001, 0, 0, 103);
    due("3001 by 3", cent.sum(0, 2), 1001);
    cent.pay(0, 1);
    due("PREPAID 1 is above 0", cent.sum(0, 2), 1000);
    LoanBook shorten = new LoanBook();
    shorten.loan(3001, 0, 0, 3);
    shorten.pay(0, 1);
    due("SHORTEN: as it was", shorten.sum(0, 2), 1001);
    for (int kind : new int[] {1100, 2100}) {
      LoanBook y = three(kind);
      y.pay(0, 1);
      due("KIND isn't LEVEL", y.sum(0, 2), 0);
    }
  }

  private static void payGivenBack() {
    says("What is left then is given back.");
    for (int kind : new int[] {0, 100, 1000, 2000}) {
      LoanBook x = three(kind);
      due("all but a cent", x.pay(0, 99999), 0);
      due("a cent and one more", x.pay(0, 2), 1);
      due("nothing is owed", x.pay(0, 1), 1);
      due("PRINCIPAL GOT", x.sum(0, 6), 100000);
    }
    LoanBook x = three(0);
    x.days(91);
    x.writeOff(0);
    due("WRITTEN OFF", x.pay(0, 7), 7);
    due("GOT", x.sum(0, 6), 0);
  }

  // ---- promise 8

  private static void resetRefused() {
    says("RATE is RESET: LEVEL then. BAD.");
    noSuchLoan((x, loan) -> x.reset(loan, 800), BAD);
    for (int loan = 0; loan < 4; loan++) {
      int of = loan;
      range("rate of LOAN " + loan, Edges::rich, (x, rate) -> x.reset(of, rate), 0, 5000, BAD);
    }
    LoanBook x = three(0);
    due("RATE 0", x.reset(0, 0), 33334);
    due("RATE", x.of(0, 0), 0);
    due("RATE 5000", x.reset(0, 5000), 36149);
    due("RATE", x.of(0, 0), 5000);
    due("a cent less does not repay", repays(36148, 100000, 5000, 0, 3) ? 1 : 0, 0);
    due("this does", repays(36149, 100000, 5000, 0, 3) ? 1 : 0, 1);
  }

  private static void resetLevel() {
    says("LEVEL anew, if KIND is LEVEL and BALANCE isn't 0");
    LoanBook x = three(0);
    x.pay(0, 99999);
    due("SHORTEN: as it was", x.sum(0, 2), 34003);
    due("BALANCE of a cent: anew", x.reset(0, 1200), 1);
    x.pay(0, 1);
    due("BALANCE 0: as it was", x.reset(0, 5000), 1);
    due("RATE is RESET all the same", x.of(0, 0), 5000);
    LoanBook done = three(0);
    done.days(91);
    due("all are DONE, BALANCE 0", done.reset(0, 5000), 34003);
    due("the BILLS stay", done.sum(0, 3) - 2 * 500, 102007);
  }

  // ---- promise 9

  private static void writeOffRefused() {
    says("BAD; STATE: there is none, nor ARREARS.");
    noSuchLoan((x, loan) -> x.writeOff(loan), BAD);
    Made repaid = () -> { LoanBook x = rich(); x.pay(3, 900); x.pay(1, 1000000); return x; };
    for (int loan : new int[] {1, 3}) refused("LOAN " + loan + ", repaid", repaid, x -> x.writeOff(loan), STATE);
    Made written = () -> { LoanBook x = rich(); x.writeOff(0); return x; };
    refused("again", written, x -> x.writeOff(0), STATE);
  }

  private static void writeOffCents() {
    says("WRITTEN OFF: ARREARS and BALANCE are no more.");
    LoanBook x = three(0);
    x.pay(0, 99999);
    due("BALANCE of a cent", x.writeOff(0), 1);
    due("BALANCE", x.sum(0, 1), 0);
    LoanBook y = three(0);
    y.days(91);
    y.pay(0, 102007 + 1000 - 1);
    due("a cent in ARREARS", y.of(0, 7) * 10 + y.sum(0, 3), 11);
    due("BALANCE is 0, but ARREARS are there", y.writeOff(0), 1);
    due("LOST", y.sum(0, 7), 1);
    due("BILLS", y.of(0, 7), 0);
    due("LATE", y.of(0, 8), 0);
    LoanBook z = three(0);
    z.days(41);
    due("PRINCIPAL of the BILL and BALANCE, without FEE and INTEREST", z.writeOff(0), 100000);
    due("nothing more comes", z.days(4000), 0);
    due("DONE", z.of(0, 6), 3);
    due("OWED", z.sum(0, 3), 0);
    due("GOT", z.sum(0, 4) + z.sum(0, 5) + z.sum(0, 6), 0);
    LoanBook sixty = new LoanBook();
    sixty.loan(60000, 0, 2, 1060);
    sixty.days(sixty.settles(0));
    due("sixty BILLS", sixty.writeOff(0), 60000);
    due("the first and the last of them are no more", sixty.of(0, 7) + sixty.sum(0, 3), 0);
  }

  // ---- promise 10

  private static void ruleRefused() {
    says("GRACE (what 0), LATE FEE (1) becomes v: what it was. BAD.");
    range("what", Edges::rich, (x, what) -> x.rule(what, 5), 0, 1, BAD);
    range("GRACE", Edges::rich, (x, v) -> x.rule(0, v), 0, 90, BAD);
    range("LATE FEE", Edges::rich, (x, v) -> x.rule(1, v), 0, 10000, BAD);
  }

  private static void ruleInside() {
    says("(0 .. 90)");
    LoanBook x = new LoanBook();
    due("what GRACE was at first", x.rule(0, 0), 10);
    due("0", x.rule(0, 90), 0);
    due("90", x.rule(0, 90), 90);
    due("LATE FEE stays", x.count(4), 500);
    due("what LATE FEE was at first", x.rule(1, 0), 500);
    due("0", x.rule(1, 10000), 0);
    due("10000", x.rule(1, 91), 10000);
    due("GRACE stays", x.count(3), 90);
    due("LATE FEE", x.count(4), 91);
  }

  // ---- promise 11

  private static void ofRefused() {
    says("the END of the PERIOD that goes on (9; NOT: all are DONE). BAD.");
    for (int what = 0; what < 10; what++) {
      int of = what;
      noSuchLoan((x, loan) -> x.of(loan, of), BAD);
    }
    for (int loan = 0; loan < 4; loan++) {
      int of = loan;
      range("what", Edges::rich, (x, what) -> x.of(of, what), 0, 9, BAD);
    }
    refused("BAD is named ahead of NOT", () -> goTo(three(0), 91), x -> x.of(0, 10), BAD);
  }

  private static void ofLate() {
    says("LATE (8; 0: none)");
    LoanBook x = three(0);
    x.days(30);
    due("none", x.of(0, 8) + x.of(0, 7), 0);
    x.days(1);
    due("a BILL of the day: 0 days", x.of(0, 8) * 10 + x.of(0, 7), 1);
    x.days(1);
    due("a day", x.of(0, 8), 1);
    x.days(28);
    due("the oldest of two", x.of(0, 8) * 10 + x.of(0, 7), 292);
    x.pay(0, 34502);
    due("a cent of it is left", x.of(0, 8), 29);
    x.pay(0, 1);
    due("the other one", x.of(0, 8) * 10 + x.of(0, 7), 1);
    x.pay(0, 100000);
    due("none again", x.of(0, 8) + x.of(0, 7), 0);
  }

  private static void ofEnd() {
    says("the END of the PERIOD that goes on (9; NOT: all are DONE)");
    LoanBook x = three(0);
    int[] ends = {31, 60, 91};
    for (int k = 0; k < 3; k++) {
      due("at its begin", x.of(0, 9), ends[k]);
      x.days(ends[k] - x.count(2) - 1);
      due("a day ahead of its END", x.of(0, 9), ends[k]);
      x.days(1);
    }
    refused("all are DONE", () -> goTo(three(0), 91), y -> y.of(0, 9), NOT);
    due("all are DONE", x.of(0, 9), NOT);
    LoanBook sixty = new LoanBook();
    sixty.loan(1, 0, 0, 2060);
    sixty.days(sixty.settles(0) - 1);
    due("the sixtieth", sixty.of(0, 9), sixty.dayOf(2005, 1, 1));
    sixty.days(1);
    due("none behind", sixty.of(0, 9), NOT);
  }

  // ---- promise 12

  private static void sumRefused() {
    says("LOST (7), TOTAL (8). BAD.");
    for (int what = 0; what < 9; what++) {
      int of = what;
      noSuchLoan((x, loan) -> x.sum(loan, of), BAD);
    }
    for (int loan = 0; loan < 4; loan++) {
      int of = loan;
      range("what", Edges::rich, (x, what) -> x.sum(of, what), 0, 8, BAD);
    }
  }

  private static void sumAtFirst() {
    says("BALANCE: LENT at first. DONE: PERIODS that ended (0 at first).");
    LoanBook x = three(0);
    long[] first = {100000, 100000, 34003, 0, 0, 0, 0, 0, 2007};
    for (int what = 0; what < 9; what++) due("sum " + what, x.sum(0, what), first[what]);
    due("DONE", x.of(0, 6), 0);
    x.days(91);
    x.pay(0, 1000000);
    long[] last = {100000, 0, 34003, 0, 1000, 2007, 100000, 0, 0};
    for (int what = 0; what < 9; what++) due("sum " + what, x.sum(0, what), last[what]);
  }

  private static void sumOwed() {
    says("TOTAL: INTEREST TO COME. OWED: all that is in ARREARS.");
    LoanBook x = three(0);
    long[] total = {2007, 1007, 337, 0}, owed = {0, 34003, 34003 + 500 + 34003, 102007 + 1000};
    int[] ends = {0, 31, 60, 91};
    for (int k = 0; k < 4; k++) {
      goTo(x, ends[k]);
      due("TOTAL, DONE " + k, x.sum(0, 8), total[k]);
      due("OWED, DONE " + k, x.sum(0, 3), owed[k]);
    }
    x.writeOff(0);
    due("OWED", x.sum(0, 3), 0);
  }

  // ---- promise 13

  private static void billRefused() {
    says("BAD; NOT: there are not as many.");
    for (int what = 0; what < 4; what++) {
      int of = what;
      noSuchLoan((x, loan) -> x.bill(loan, 0, of), BAD);
    }
    range("what", Edges::rich, (x, what) -> x.bill(0, 0, what), 0, 3, BAD);
    range("BAD is named ahead of NOT: what", Edges::rich, (x, what) -> x.bill(3, 9, what), 0, 3, BAD);
    refused("BAD is named ahead of NOT: LOAN", Edges::rich, x -> x.bill(4, 9, 0), BAD);
    for (int i : new int[] {-1, LEAST}) refused("i " + i, Edges::rich, x -> x.bill(0, i, 0), BAD);
    for (int i : new int[] {2, 3, 60, 61, MOST}) refused("i " + i, Edges::rich, x -> x.bill(0, i, 0), NOT);
    for (int what = 0; what < 4; what++) {
      int of = what;
      refused("none", () -> three(0), x -> x.bill(0, 0, of), NOT);
    }
  }

  private static void billPlaces() {
    says("Of the i-th BILL in ARREARS");
    LoanBook x = new LoanBook();
    x.loan(60000, 0, 2, 1060);
    x.days(x.settles(0));
    due("the first of sixty", x.bill(0, 0, 0), 31);
    due("the last of sixty", x.bill(0, 59, 0), x.dayOf(2005, 1, 1));
    due("none behind", x.bill(0, 60, 0), NOT);
    x.pay(0, 59 * 1500);
    due("one is left", x.bill(0, 0, 0), x.dayOf(2005, 1, 1));
    due("no second", x.bill(0, 1, 0), NOT);
    x.pay(0, 1000);
    due("none is left", x.bill(0, 0, 0), NOT);
  }

  private static void billToPayYet() {
    says("as they are to pay yet");
    LoanBook x = three(0);
    x.days(41);
    long[][] steps = {{499, 1, 1000, 33003}, {1, 0, 1000, 33003}, {999, 0, 1, 33003}, {1, 0, 0, 33003}, {33002, 0, 0, 1}};
    for (long[] s : steps) {
      x.pay(0, s[0]);
      due("FEE", x.bill(0, 0, 3), s[1]);
      due("INTEREST", x.bill(0, 0, 1), s[2]);
      due("PRINCIPAL", x.bill(0, 0, 2), s[3]);
      due("its day", x.bill(0, 0, 0), 31);
    }
    x.pay(0, 1);
    due("no more", x.bill(0, 0, 0), NOT);
  }
}
