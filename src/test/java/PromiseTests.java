import java.time.LocalDate;
import java.time.temporal.ChronoUnit;

/** A test for each promise of the document: ordinary inputs, the edges that it names, wrong inputs. */
public final class PromiseTests {
  private static final int BAD = -1, NOT = -2, FULL = -3, STATE = -5;
  private static int promise = 0, checks = 0, wrong = 0;

  private static void due(String call, long got, long want) {
    checks++;
    if (got != want) { wrong++; System.out.println("promise " + promise + ": " + call + " answered " + got + ", due is " + want); }
  }

  public static void main(String[] args) {
    promise = 1; newObject();
    promise = 2; date();
    promise = 3; dayOf();
    promise = 4; interest(); interestWrong();
    promise = 5; loan(); loanRefused(); level();
    promise = 6; days(); daysEnds(); daysWithoutBills(); fees(); feesOnce();
    promise = 7; pay(); payModes();
    promise = 8; reset();
    promise = 9; writeOff();
    promise = 10; rule();
    promise = 11; of();
    promise = 12; sum();
    promise = 13; bill();
    promise = 14; toCome();
    promise = 15; coming();
    promise = 16; value();
    promise = 17; yieldOf();
    promise = 18; near();
    promise = 19; duration();
    promise = 20; behind();
    promise = 21; settles();
    promise = 22; would(); thoughtByEachCount();
    promise = 23; sooner();
    promise = 24; judge();
    promise = 25; feed();
    promise = 26; scriptForm(); scriptDone(); scriptRefused();
    promise = 27; image();
    promise = 28; back(); backToTheLastPeriod();
    promise = 29; hold();
    promise = 30; row();
    promise = 31; put();
    promise = 32; tells();
    promise = 33; count();
    System.out.println(checks + " checks, " + wrong + " wrong");
    if (wrong != 0) System.exit(1);
  }

  /** 1000.00 at 1 of a hundred a month for three months: LEVEL 34003; 1000 + 33003, 670 + 33333, 337 + 33664. */
  private static LoanBook three(int kindAndMode) {
    LoanBook x = new LoanBook();
    x.loan(100000, 1200, 0, kindAndMode + 3);
    return x;
  }

  private static void newObject() {
    LoanBook x = new LoanBook();
    int[] want = {0, 0, 0, 10, 500, 0, 0, 0};
    for (int i = 0; i < 8; i++) due("count " + i, x.count(i), want[i]);
    for (int i = 0; i < 6; i++) due("tells " + i, x.tells(i, 0), -11);
    due("of", x.of(0, 0), BAD);
    due("back", x.back(), STATE);
  }

  private static void date() {
    LoanBook x = new LoanBook();
    LocalDate d = LocalDate.of(2000, 1, 1);
    for (int i = 0; i <= 36524; i++, d = d.plusDays(1)) {
      if (i % 100 == 0) x = new LoanBook();
      int[] want = {d.getYear(), d.getMonthValue(), d.getDayOfMonth(), d.isLeapYear() ? 1 : 0};
      for (int what = 0; what < 4; what++) if (x.date(i, what) != want[what]) due("date " + i + " " + what, x.date(i, what), want[what]);
    }
    due("last year", x.date(36524, 0), 2099);
    due("leap 2000", x.date(365, 3), 1);
    due("leap 2001", x.date(366, 3), 0);
    for (int day : new int[] {-1, 36525, Integer.MIN_VALUE, Integer.MAX_VALUE}) for (int what = 0; what < 4; what++) due("day " + day, x.date(day, what), BAD);
    for (int what : new int[] {-1, 4, Integer.MIN_VALUE, Integer.MAX_VALUE}) due("what " + what, x.date(0, what), BAD);
  }

  private static void dayOf() {
    LoanBook x = new LoanBook();
    LocalDate first = LocalDate.of(2000, 1, 1);
    for (int y = 1999; y <= 2100; y++)
      for (int m = 0; m <= 13; m++) {
        x = new LoanBook();
        for (int d = 0; d <= 32; d++) {
          boolean is = y >= 2000 && y <= 2099 && m >= 1 && m <= 12 && d >= 1 && d <= LocalDate.of(y, m, 1).lengthOfMonth();
          long want = is ? ChronoUnit.DAYS.between(first, LocalDate.of(y, m, d)) : BAD;
          if (x.dayOf(y, m, d) != want) due("dayOf " + y + " " + m + " " + d, x.dayOf(y, m, d), want);
        }
      }
    due("first", x.dayOf(2000, 1, 1), 0);
    int[] far = {Integer.MIN_VALUE, Integer.MAX_VALUE};
    for (int v : far) { due("year", x.dayOf(v, 1, 1), BAD); due("month", x.dayOf(2000, v, 1), BAD); due("day", x.dayOf(2000, 1, v), BAD); }
  }

  private static void interest() {
    LoanBook x = new LoanBook();
    int jan30 = x.dayOf(2001, 1, 30), jan31 = x.dayOf(2001, 1, 31), feb28 = x.dayOf(2001, 2, 28), mar1 = x.dayOf(2001, 3, 1);
    due("0: 30th to 31st", x.interest(3600000, 1, 0, jan30, jan31), 0);
    due("0: 31st to the 28th", x.interest(3600000, 1, 0, jan31, feb28), 28);
    due("0: 28th to the 1st", x.interest(3600000, 1, 0, feb28, mar1), 3);
    due("0: a year", x.interest(3600000, 1, 0, 0, 366), 360);
    due("0: december to january", x.interest(3600000, 1, 0, x.dayOf(2000, 12, 31), x.dayOf(2001, 1, 31)), 30);
    due("1: a leap year", x.interest(3600000, 1, 1, 0, 366), 366);
    due("2: a leap year", x.interest(3650000, 1, 2, 0, 366), 366);
    due("3: a leap year", x.interest(1000000, 100, 3, 0, 366), 10000);
    due("3: two years", x.interest(1000000, 100, 3, 0, 366 + 365), 20000);
    due("3: the first day is in, the last is not", x.interest(36600000, 1, 3, 365, 366), 10);
    due("3: and the other way", x.interest(36500000, 1, 3, 366, 367), 10);
    due("half a cent", x.interest(1800, 1000, 1, 5, 6), 1);
    due("less than half a cent", x.interest(1799, 1000, 1, 5, 6), 0);
    due("one and a half", x.interest(5400, 1000, 1, 5, 6), 2);
    due("half a cent by 3", x.interest(1825, 1000, 3, 366, 367), 1);
    due("less by 3", x.interest(1824, 1000, 3, 366, 367), 0);
    due("half a cent by 3, leap", x.interest(1830, 1000, 3, 0, 1), 1);
    due("less by 3, leap", x.interest(1829, 1000, 3, 0, 1), 0);
    due("no days", x.interest(100000000, 5000, 3, 36524, 36524), 0);
    for (int count = 0; count < 4; count++) { due("no rate", x.interest(100000000, 0, count, 0, 36524), 0); due("no balance", x.interest(0, 5000, count, 0, 36524), 0); }
    due("the most by 1", x.interest(100000000, 5000, 1, 0, 36524), 5072777778L);
    due("the most by 2", x.interest(100000000, 5000, 2, 0, 36524), 5003287671L);
    due("the most by 0", x.interest(100000000, 5000, 0, 0, 36524), 4999861111L);
  }

  private static void interestWrong() {
    LoanBook x = new LoanBook();
    for (long b : new long[] {-1, 100000001L, Long.MIN_VALUE, Long.MAX_VALUE}) due("b " + b, x.interest(b, 1, 0, 0, 1), BAD);
    for (int rate : new int[] {-1, 5001, Integer.MIN_VALUE, Integer.MAX_VALUE}) due("rate " + rate, x.interest(1, rate, 0, 0, 1), BAD);
    for (int count : new int[] {-1, 4, Integer.MIN_VALUE, Integer.MAX_VALUE}) due("count " + count, x.interest(1, 1, count, 0, 1), BAD);
    due("d", x.interest(1, 1, 0, -1, 1), BAD);
    due("e", x.interest(1, 1, 0, 0, 36525), BAD);
    due("d and e", x.interest(1, 1, 0, 36525, 36525), BAD);
    due("e below d", x.interest(1, 1, 0, 5, 4), BAD);
  }

  private static void loan() {
    LoanBook x = new LoanBook();
    x.days(30);
    due("first", x.loan(100000000, 5000, 3, 2160), 0);
    int[] want = {5000, 3, 2, 60, 1, 30, 0, 0, 0, 59};
    for (int what = 0; what < 10; what++) due("of " + what, x.of(0, what), want[what]);
    due("second", x.loan(1, 0, 0, 1), 1);
    due("its kind", x.of(1, 2), 0);
    due("its mode", x.of(1, 4), 0);
    due("its periods", x.of(1, 3), 1);
    due("third", x.loan(7, 1, 1, 1002), 2);
    due("its kind", x.of(2, 2), 1);
    due("lent", x.sum(0, 0), 100000000);
    due("balance", x.sum(0, 1), 100000000);
    for (int i = 3; i < 8; i++) due("number", x.loan(5, 5, 2, 101), i);
    due("full", x.loan(5, 5, 2, 101), FULL);
    due("full but bad", x.loan(0, 5, 2, 101), BAD);
    due("how many", x.count(0), 8);
  }

  private static void loanRefused() {
    LoanBook x = new LoanBook();
    for (long lent : new long[] {0, -1, 100000001L, Long.MIN_VALUE, Long.MAX_VALUE}) due("lent " + lent, x.loan(lent, 1, 0, 1), BAD);
    for (int rate : new int[] {-1, 5001}) due("rate " + rate, x.loan(1, rate, 0, 1), BAD);
    for (int count : new int[] {-1, 4}) due("count " + count, x.loan(1, 1, count, 1), BAD);
    for (int kmn : new int[] {0, -1, 61, 99, 100, 161, 201, 901, 1000, 1200, 2161, 2201, 3001, -1001, Integer.MIN_VALUE, Integer.MAX_VALUE}) due("kmn " + kmn, x.loan(1, 1, 0, kmn), BAD);
    due("none came", x.count(0), 0);
    for (int i = 0; i < 9; i++) x.days(4000);
    x.days(493);
    due("november 30, 2099", x.date(x.count(2), 1) * 100 + x.date(x.count(2), 2), 1130);
    due("its END is december 30", x.loan(1, 1, 0, 1), 0);
    due("END", x.of(0, 9), 36523);
    due("its END would be in 2100", x.loan(1, 1, 0, 2), STATE);
    due("BAD is first", x.loan(0, 1, 0, 2), BAD);
    x.days(1);
    due("december 1", x.loan(1, 1, 0, 1), STATE);
    x.days(30);
    due("december 31", x.loan(1, 1, 0, 1), STATE);
    due("none but one", x.count(0), 1);
    LoanBook y = new LoanBook();
    for (int i = 0; i < 8; i++) y.loan(1, 0, 0, 1);
    for (int i = 0; i < 9; i++) y.days(4000);
    due("STATE is named ahead of FULL", y.loan(1, 1, 0, 60), STATE);
    due("FULL", y.loan(1, 1, 0, 1), FULL);
  }

  private static void level() {
    due("three months", three(0).sum(0, 2), 34003);
    due("EQUAL", three(1000).sum(0, 2), 0);
    due("BULLET", three(2000).sum(0, 2), 0);
    LoanBook x = new LoanBook();
    x.loan(100, 0, 0, 3);
    due("no rate", x.sum(0, 2), 34);
    x.loan(1, 0, 0, 60);
    due("one cent", x.sum(1, 2), 1);
    x.loan(100000000, 5000, 1, 1);
    due("one period", x.sum(2, 2), 104305556);
    x.loan(1, 5000, 1, 2);
    due("one cent, two periods, no INTEREST", x.sum(3, 2), 1);
  }

  private static void days() {
    LoanBook x = three(0);
    due("ahead of the END", x.days(30), 0);
    due("the END", x.days(1), 1);
    due("DAY", x.count(2), 31);
    due("BALANCE", x.sum(0, 1), 66997);
    due("DONE", x.of(0, 6), 1);
    due("both others", x.days(60), 2);
    due("BALANCE", x.sum(0, 1), 0);
    due("DONE", x.of(0, 6), 3);
    due("INTEREST", x.bill(0, 2, 1), 337);
    due("PRINCIPAL", x.bill(0, 2, 2), 33664);
    due("no more", x.days(4000), 0);
    for (int n : new int[] {0, -1, 4001, Integer.MIN_VALUE, Integer.MAX_VALUE}) due("n " + n, x.days(n), BAD);
    due("DAY as it was", x.count(2), 4091);
    for (int i = 0; i < 8; i++) x.days(4000);
    due("too far", x.days(434), STATE);
    due("BAD is first", x.days(4001), BAD);
    due("to the last day", x.days(433), 0);
    due("DAY", x.count(2), 36524);
    due("beyond", x.days(1), STATE);
  }

  private static void daysEnds() {
    LoanBook x = new LoanBook();
    x.days(30);
    x.loan(1200, 1000, 0, 1012);
    due("all of a year", x.days(366), 12);
    int[] last = {29, 31, 30, 31, 30, 31, 31, 30, 31, 30, 31, 31};
    for (int i = 0; i < 12; i++) {
      due("day of the month " + i, x.date((int) x.bill(0, i, 0), 2), last[i]);
      due("month " + i, x.date((int) x.bill(0, i, 0), 1), (i + 1) % 12 + 1);
      due("PRINCIPAL " + i, x.bill(0, i, 2), 100);
    }
    LoanBook y = three(1000);
    y.loan(100000, 1200, 0, 2003);
    due("of both", y.days(91), 6);
    long[] equal = {1000, 33333, 667, 33333, 333, 33334}, bullet = {1000, 0, 1000, 0, 1000, 100000};
    for (int i = 0; i < 6; i++) {
      due("EQUAL " + i, y.bill(0, i / 2, 1 + i % 2), equal[i]);
      due("BULLET " + i, y.bill(1, i / 2, 1 + i % 2), bullet[i]);
    }
  }

  private static void daysWithoutBills() {
    LoanBook x = new LoanBook();
    x.loan(100, 0, 0, 2003);
    x.loan(2, 0, 0, 1005);
    x.loan(500, 1200, 0, 4);
    x.pay(2, 500);
    due("BULLET without RATE: the last alone; EQUAL: 2 of 5 is 0 for a while", x.days(91), 1);
    due("its day", x.bill(0, 0, 0), 91);
    due("EQUAL", x.of(1, 7), 0);
    due("DONE by two", x.of(1, 6), 3);
    due("two more", x.days(61), 2);
    due("EQUAL, 2 by 2", x.bill(1, 0, 2), 1);
    due("nothing of what was PREPAID whole", x.of(2, 7), 0);
    due("but its PERIODS are DONE", x.of(2, 6), 4);
  }

  private static void fees() {
    LoanBook x = three(0);
    x.days(40);
    due("nine days old", x.bill(0, 0, 3), 0);
    x.days(1);
    due("ten days old", x.bill(0, 0, 3), 500);
    x.days(49);
    due("the second too", x.bill(0, 1, 3), 500);
    due("no more for the first", x.bill(0, 0, 3), 500);
    LoanBook y = three(0);
    y.rule(0, 0);
    y.rule(1, 77);
    due("GRACE 0", y.days(31), 1);
    due("on its own day", y.bill(0, 0, 3), 77);
    LoanBook z = three(0);
    z.days(45);
    z.rule(0, 12);
    z.rule(0, 14);
    due("no day came", z.bill(0, 0, 3), 500);
    LoanBook w = three(0);
    w.rule(0, 90);
    w.days(40);
    w.rule(0, 9);
    w.days(5);
    due("DAY had come to that ahead of the rule", w.bill(0, 0, 3), 0);
    w.rule(0, 15);
    w.days(1);
    due("DAY comes to that", w.bill(0, 0, 3), 500);
  }

  private static void feesOnce() {
    LoanBook x = three(0);
    x.days(41);
    x.pay(0, 500);
    due("paid", x.bill(0, 0, 3), 0);
    x.rule(0, 20);
    x.days(15);
    due("once", x.bill(0, 0, 3), 0);
    LoanBook y = three(0);
    y.rule(1, 0);
    y.days(41);
    y.rule(0, 20);
    y.rule(1, 500);
    y.days(15);
    due("a FEE of 0 was its FEE", y.bill(0, 0, 3), 0);
    LoanBook z = three(0);
    z.days(35);
    z.pay(0, 34003);
    z.days(20);
    due("no FEE for what is paid", z.sum(0, 3), 0);
  }

  private static void pay() {
    LoanBook x = three(0);
    x.days(75);
    due("OWED", x.sum(0, 3), 34503 + 34503);
    due("FEE", x.pay(0, 499), 0);
    due("left of FEE", x.bill(0, 0, 3), 1);
    due("and INTEREST", x.pay(0, 2), 0);
    due("left of INTEREST", x.bill(0, 0, 1), 999);
    due("and PRINCIPAL", x.pay(0, 1000), 0);
    due("left of PRINCIPAL", x.bill(0, 0, 2), 33002);
    due("FEES GOT", x.sum(0, 4), 500);
    due("INTEREST GOT", x.sum(0, 5), 1000);
    due("PRINCIPAL GOT", x.sum(0, 6), 1);
    due("all of it and the next one's FEE", x.pay(0, 33002 + 500), 0);
    due("one is left", x.of(0, 7), 1);
    due("the second", x.bill(0, 0, 0), 60);
    due("its FEE", x.bill(0, 0, 3), 0);
    due("the rest and more than BALANCE", x.pay(0, 34003 + 33664 + 6), 6);
    due("PRINCIPAL GOT", x.sum(0, 6), 100000);
    due("INTEREST GOT", x.sum(0, 5), 1670);
    due("FEES GOT", x.sum(0, 4), 1000);
    due("BALANCE", x.sum(0, 1), 0);
    due("all back", x.pay(0, 1000000000), 1000000000);
    for (long amount : new long[] {0, -1, 1000000001L, Long.MIN_VALUE, Long.MAX_VALUE}) due("amount " + amount, x.pay(0, amount), BAD);
    for (int loan : new int[] {-1, 1, 8, Integer.MIN_VALUE, Integer.MAX_VALUE}) due("loan " + loan, x.pay(loan, 1), BAD);
  }

  private static void payModes() {
    LoanBook shorten = three(0);
    shorten.pay(0, 50000);
    due("SHORTEN", shorten.sum(0, 2), 34003);
    due("two come", shorten.coming(0, 0), 2);
    LoanBook lower = three(100);
    lower.pay(0, 50000);
    due("LOWER", lower.sum(0, 2), 17001);
    due("three come", lower.coming(0, 0), 3);
    lower.pay(0, 50000);
    due("BALANCE is 0: LEVEL as it was", lower.sum(0, 2), 17001);
    LoanBook arrears = three(100);
    arrears.days(31);
    arrears.pay(0, 34003);
    due("nothing PREPAID", arrears.sum(0, 2), 34003);
    arrears.pay(0, 16997);
    due("BALANCE 50000, two left", arrears.sum(0, 2), 25376);
    LoanBook equal = three(1100);
    equal.pay(0, 10000);
    due("EQUAL", equal.sum(0, 2), 0);
    due("a third", equal.toCome(0, 0, 2), 30000);
  }

  private static void reset() {
    LoanBook x = three(0);
    due("LEVEL anew", x.reset(0, 2400), 34676);
    due("RATE", x.of(0, 0), 2400);
    due("to 0", x.reset(0, 0), 33334);
    due("to the most", x.reset(0, 5000) > 34676 ? 1 : 0, 1);
    LoanBook b = three(2000);
    due("BULLET", b.reset(0, 2400), 0);
    b.days(31);
    due("by RATE as it is then", b.bill(0, 0, 1), 2000);
    b.days(10);
    b.reset(0, 1200);
    b.days(19);
    due("of the whole PERIOD", b.bill(0, 1, 1), 1000);
    LoanBook z = three(0);
    z.pay(0, 100000);
    due("BALANCE 0: LEVEL as it was", z.reset(0, 2400), 34003);
    due("RATE all the same", z.of(0, 0), 2400);
    for (int rate : new int[] {-1, 5001, Integer.MIN_VALUE, Integer.MAX_VALUE}) due("rate " + rate, x.reset(0, rate), BAD);
    for (int loan : new int[] {-1, 1, 8}) due("loan " + loan, x.reset(loan, 1), BAD);
    due("RATE as it was", x.of(0, 0), 5000);
  }

  private static void writeOff() {
    LoanBook x = three(0);
    x.days(41);
    x.pay(0, 2500);
    due("the rest of the BILL and BALANCE", x.writeOff(0), 99000);
    due("LOST", x.sum(0, 7), 99000);
    due("BALANCE", x.sum(0, 1), 0);
    due("OWED", x.sum(0, 3), 0);
    due("BILLS", x.of(0, 7), 0);
    due("PRINCIPAL GOT", x.sum(0, 6), 1000);
    due("again", x.writeOff(0), STATE);
    due("no BILLS", x.days(60), 0);
    due("DONE", x.of(0, 6), 3);
    LoanBook y = three(0);
    y.days(91);
    due("BALANCE 0, but ARREARS", y.writeOff(0), 100000);
    for (int loan : new int[] {-1, 1, 8, Integer.MIN_VALUE, Integer.MAX_VALUE}) due("loan " + loan, x.writeOff(loan), BAD);
  }

  private static void rule() {
    LoanBook x = new LoanBook();
    due("GRACE", x.rule(0, 90), 10);
    due("GRACE", x.rule(0, 0), 90);
    due("LATE FEE", x.rule(1, 10000), 500);
    due("LATE FEE", x.rule(1, 0), 10000);
    for (int v : new int[] {-1, 91, Integer.MIN_VALUE, Integer.MAX_VALUE}) due("GRACE " + v, x.rule(0, v), BAD);
    for (int v : new int[] {-1, 10001, Integer.MIN_VALUE, Integer.MAX_VALUE}) due("LATE FEE " + v, x.rule(1, v), BAD);
    for (int what : new int[] {-1, 2}) due("what " + what, x.rule(what, 1), BAD);
    due("as it was", x.count(3) + x.count(4), 0);
  }

  private static void of() {
    LoanBook x = three(100);
    x.days(62);
    int[] want = {1200, 0, 0, 3, 1, 0, 2, 2, 31, 91};
    for (int what = 0; what < 10; what++) due("of " + what, x.of(0, what), want[what]);
    x.pay(0, 34503);
    due("LATE of the next", x.of(0, 8), 2);
    x.pay(0, 34003);
    due("LATE of none", x.of(0, 8), 0);
    x.days(29);
    due("all are DONE", x.of(0, 9), NOT);
    for (int what : new int[] {-1, 10, Integer.MIN_VALUE, Integer.MAX_VALUE}) due("what " + what, x.of(0, what), BAD);
    for (int loan : new int[] {-1, 1, 8}) due("loan " + loan, x.of(loan, 0), BAD);
  }

  private static void sum() {
    LoanBook x = three(0);
    due("TOTAL", x.sum(0, 8), 2007);
    x.days(41);
    x.pay(0, 1600);
    long[] want = {100000, 66997, 34003, 32903, 500, 1000, 100, 0, 1007};
    for (int what = 0; what < 9; what++) due("sum " + what, x.sum(0, what), want[what]);
    x.writeOff(0);
    due("LOST", x.sum(0, 7), 99900);
    due("TOTAL of nothing", x.sum(0, 8), 0);
    for (int what : new int[] {-1, 9, Integer.MIN_VALUE, Integer.MAX_VALUE}) due("what " + what, x.sum(0, what), BAD);
    for (int loan : new int[] {-1, 1, 8}) due("loan " + loan, x.sum(loan, 0), BAD);
  }

  private static void bill() {
    LoanBook x = three(0);
    due("none yet", x.bill(0, 0, 0), NOT);
    x.days(75);
    long[] want = {31, 1000, 33003, 500, 60, 670, 33333, 500};
    for (int i = 0; i < 8; i++) due("bill " + i, x.bill(0, i / 4, i % 4), want[i]);
    due("two alone", x.bill(0, 2, 0), NOT);
    due("far", x.bill(0, Integer.MAX_VALUE, 3), NOT);
    due("below 0", x.bill(0, -1, 0), BAD);
    due("what", x.bill(0, 0, 4), BAD);
    due("what", x.bill(0, 0, -1), BAD);
    due("BAD is ahead of NOT", x.bill(0, 5, 4), BAD);
    for (int loan : new int[] {-1, 1, 8}) due("loan " + loan, x.bill(loan, 0, 0), BAD);
  }

  private static void toCome() {
    LoanBook x = three(0);
    long[] want = {31, 1000, 33003, 66997, 60, 670, 33333, 33664, 91, 337, 33664, 0};
    for (int i = 0; i < 12; i++) due("to come " + i, x.toCome(0, i / 4, i % 4), want[i]);
    due("no more", x.toCome(0, 3, 0), NOT);
    x.days(31);
    for (int i = 4; i < 12; i++) due("to come " + i, x.toCome(0, i / 4 - 1, i % 4), want[i]);
    due("no more", x.toCome(0, 2, 0), NOT);
    due("BALANCE stays", x.sum(0, 1), 66997);
    due("BAD is ahead of NOT", x.toCome(0, 9, 4), BAD);
    due("what", x.toCome(0, 0, -1), BAD);
    due("below 0", x.toCome(0, -1, 0), BAD);
    for (int loan : new int[] {-1, 1, 8}) due("loan " + loan, x.toCome(loan, 0, 0), BAD);
    x.loan(100, 0, 0, 2003);
    due("those that come alone", x.toCome(1, 0, 0), x.of(1, 5) + 90);
    due("no second", x.toCome(1, 1, 0), NOT);
  }

  private static void coming() {
    LoanBook x = three(0);
    due("how many", x.coming(0, 0), 3);
    due("the last", x.coming(0, 1), 91);
    due("the greatest", x.coming(0, 2), 34003);
    x.pay(0, 50000);
    due("the last BILL, not the last PERIOD", x.coming(0, 1), 60);
    due("how many", x.coming(0, 0), 2);
    x.pay(0, 50000);
    due("none", x.coming(0, 0), 0);
    due("none is last", x.coming(0, 1), NOT);
    due("none is greatest", x.coming(0, 2), 0);
    LoanBook y = three(2000);
    due("BULLET", y.coming(0, 2), 101000);
    for (int what : new int[] {-1, 3, Integer.MIN_VALUE, Integer.MAX_VALUE}) due("what " + what, x.coming(0, what), BAD);
    for (int loan : new int[] {-1, 1, 8}) due("loan " + loan, x.coming(loan, 0), BAD);
  }

  private static long bits(double d) { return Double.doubleToRawLongBits(d); }

  private static double worth(double r) { return (34003.0 + (34003.0 + 34001.0 / (1.0 + r)) / (1.0 + r)) / (1.0 + r); }

  private static void value() {
    LoanBook x = three(0);
    for (double r : new double[] {0.0, -0.0, Double.MIN_VALUE, Double.MIN_NORMAL, 1e-17, 0.01, 0.5, 1.0, 3.75, 10.0})
      due("value by " + r, x.value(0, bits(r)), bits(worth(r)));
    for (double r : new double[] {-Double.MIN_VALUE, -1.0, Math.nextUp(10.0), 1e300, Double.POSITIVE_INFINITY, Double.NEGATIVE_INFINITY, Double.NaN})
      due("value by " + r, x.value(0, bits(r)), 0);
    due("another NaN", x.value(0, -1L), 0);
    for (int loan : new int[] {-1, 1, 8}) due("loan " + loan, x.value(loan, 0), 0);
    x.loan(100000000, 5000, 3, 2060);
    double v = 0.0;
    for (int i = 59; i >= 0; i--) v = (v + (x.toCome(1, i, 1) + x.toCome(1, i, 2))) / 11.0;
    due("sixty by ten", x.value(1, bits(10.0)), bits(v));
    x.loan(1, 0, 0, 2060);
    v = 0.0;
    for (int i = 59; i >= 0; i--) v = (v + (i == 59 ? 1 : 0)) / 11.0;
    due("one cent far away", x.value(2, bits(10.0)), bits(v));
    x.pay(0, 100000);
    due("nothing", x.value(0, 0), 0);
  }

  private static double yieldBy(long price) {
    double low = 0.0, high = 1.0;
    for (int i = 0; i < 50; i++) { double mid = (low + high) / 2.0; if (worth(mid) > price) low = mid; else high = mid; }
    return low;
  }

  private static void yieldOf() {
    LoanBook x = three(0);
    for (long price : new long[] {1, 50000, 86000, 90000, 99999, 100000, 100001, 102006, 102007, 102008, Long.MAX_VALUE})
      due("yield by " + price, x.yieldOf(0, price), bits(yieldBy(price)));
    due("all at par: some 1 of a hundred", Math.round(Double.longBitsToDouble(x.yieldOf(0, 100000)) * 100000), 1000);
    due("as much as comes: 0", x.yieldOf(0, 102007), 0);
    LoanBook half = new LoanBook();
    half.loan(150, 0, 0, 1);
    due("VALUE by 0.5 is the price, not above it", half.yieldOf(0, 100), bits(0.5 - Math.pow(2, -50)));
    due("a price a cent lower", half.yieldOf(0, 99) > bits(0.5) ? 1 : 0, 1);
    for (long price : new long[] {0, -1, Long.MIN_VALUE}) due("price " + price, x.yieldOf(0, price), -1);
    for (int loan : new int[] {-1, 1, 8}) due("loan " + loan, x.yieldOf(loan, 1), -1);
  }

  private static void near() {
    LoanBook x = three(0);
    for (long price : new long[] {1, 50000, 86000, 90000, 99999, 100000, 100001, 102006, 102007, Long.MAX_VALUE})
      due("near by " + price, x.near(0, price), Float.floatToRawIntBits((float) yieldBy(price)));
    due("nearest to almost 1 is 1", x.near(0, 1), Float.floatToRawIntBits(1.0f));
    for (long price : new long[] {0, -1, Long.MIN_VALUE}) due("price " + price, x.near(0, price), BAD);
    for (int loan : new int[] {-1, 1, 8}) due("loan " + loan, x.near(loan, 1), BAD);
  }

  private static void duration() {
    LoanBook x = three(0);
    for (double r : new double[] {0.0, -0.0, Double.MIN_VALUE, 0.01, 0.5, 1.0, 10.0}) {
      double d = (34003.0 + (68006.0 + 102003.0 / (1.0 + r)) / (1.0 + r)) / (1.0 + r);
      due("duration by " + r, x.duration(0, bits(r)), bits(d / worth(r)));
    }
    x.days(31);
    due("numbers from 1 on again", x.duration(0, 0), bits((34003.0 + 2.0 * 34001.0) / (34003.0 + 34001.0)));
    for (double r : new double[] {-Double.MIN_VALUE, Math.nextUp(10.0), Double.POSITIVE_INFINITY, Double.NaN}) due("duration by " + r, x.duration(0, bits(r)), 0);
    for (int loan : new int[] {-1, 1, 8}) due("loan " + loan, x.duration(loan, 0), 0);
    x.writeOff(0);
    due("VALUE 0.0", x.duration(0, 0), 0);
    x.loan(100, 0, 0, 2003);
    due("PERIODS without BILLS have numbers too", x.duration(1, 0), bits(3.0));
  }

  private static void behind() {
    LoanBook x = three(0);
    x.days(5);
    for (int i = 1; i < 8; i++) x.loan(100000, 1200, 0, 3);
    due("none", x.behind(0), 0);
    x.days(26);
    due("on the day", x.behind(0), 0);
    x.days(5);
    due("five days", x.behind(4), 1);
    due("not older than five", x.behind(5), 0);
    x.days(1);
    due("all", x.behind(0), 255);
    x.pay(0, 34003);
    x.pay(7, 34003);
    due("but two", x.behind(0), 126);
    due("far", x.behind(Integer.MAX_VALUE), 0);
    for (int n : new int[] {-1, Integer.MIN_VALUE}) due("n " + n, x.behind(n), BAD);
  }

  private static void settles() {
    LoanBook x = three(0);
    due("at first", x.settles(0), 91);
    x.days(31);
    due("later", x.settles(0), 60);
    x.pay(0, 1000000);
    due("by the calendar, paid or not", x.settles(0), 60);
    x.days(59);
    due("tomorrow", x.settles(0), 1);
    x.days(1);
    due("now", x.settles(0), 0);
    x.days(100);
    due("DONE", x.settles(0), 0);
    for (int loan : new int[] {-1, 1, 8, Integer.MIN_VALUE, Integer.MAX_VALUE}) due("loan " + loan, x.settles(loan), BAD);
  }

  private static void would() {
    LoanBook x = three(100);
    x.days(41);
    long[] want = {500, 1000, 33003, 16997, 0, 25376};
    for (int what = 0; what < 6; what++) due("would " + what, x.would(0, 51500, what), want[what]);
    long[] all = {500, 1000, 33003, 66997, 500, 34003};
    for (int what = 0; what < 6; what++) due("more than all " + what, x.would(0, 102000, what), all[what]);
    long[] some = {500, 1000, 1, 0, 0, 34003};
    for (int what = 0; what < 6; what++) due("some " + what, x.would(0, 1501, what), some[what]);
    due("nothing changed", x.sum(0, 3) + x.sum(0, 1) + x.sum(0, 2) + x.sum(0, 4) + x.sum(0, 5) + x.sum(0, 6), 34503 + 66997 + 34003);
    for (long amount : new long[] {0, -1, 1000000001L, Long.MIN_VALUE, Long.MAX_VALUE}) due("amount " + amount, x.would(0, amount, 0), BAD);
    for (int what : new int[] {-1, 6}) due("what " + what, x.would(0, 1, what), BAD);
    for (int loan : new int[] {-1, 1, 8}) due("loan " + loan, x.would(loan, 1, 0), BAD);
  }

  private static void sooner() {
    LoanBook x = three(0);
    due("none", x.sooner(0, 1), 0);
    due("one", x.sooner(0, 50000), 1);
    due("two", x.sooner(0, 70000), 2);
    due("all three", x.sooner(0, 100000), 3);
    due("more than all", x.sooner(0, 1000000000), 3);
    due("nothing changed", x.sum(0, 1), 100000);
    x.days(31);
    due("ARREARS come first", x.sooner(0, 34003), 0);
    due("two are left", x.sooner(0, 101000), 2);
    due("LOWER", three(100).sooner(0, 50000), 0);
    due("BULLET", three(2000).sooner(0, 50000), 0);
    due("BULLET whole", three(2000).sooner(0, 100000), 3);
    LoanBook later = new LoanBook();
    later.loan(9, 0, 0, 104);
    due("9 by 3 goes in three, 8 by 2 in four: 0 at least", later.sooner(0, 1), 0);
    for (long amount : new long[] {0, -1, 1000000001L, Long.MIN_VALUE, Long.MAX_VALUE}) due("amount " + amount, x.sooner(0, amount), BAD);
    for (int loan : new int[] {-1, 1, 8}) due("loan " + loan, x.sooner(loan, 1), BAD);
  }

  private static void judge() {
    LoanBook x = three(0);
    x.row(0, 3);
    due("otherwise at once", x.judge(0, 0), 0);
    long[] principals = {33003, 33333, 33664};
    for (int i = 0; i < 3; i++) {
      due("otherwise at " + i, x.judge(0, 0), i);
      x.put(0, i, principals[i]);
    }
    due("as told", x.judge(0, 0), NOT);
    x.row(1, 2);
    x.put(1, 0, 33003);
    x.put(1, 1, 33333);
    due("more come", x.judge(1, 0), 2);
    x.row(2, 4);
    for (int i = 0; i < 3; i++) x.put(2, i, principals[i]);
    due("beyond", x.judge(2, 0), 3);
    x.row(3, 0);
    due("nothing told", x.judge(3, 0), 0);
    x.pay(0, 100000);
    due("nothing told, nothing comes", x.judge(3, 0), NOT);
    due("beyond, with a 0 there", x.judge(2, 0), 0);
    due("nothing is held", x.judge(4, 0), -11);
    x.hold(4, 0, -1);
    due("a LOAN is held", x.judge(4, 0), -12);
    for (int holder : new int[] {-1, 6, Integer.MIN_VALUE, Integer.MAX_VALUE}) due("holder " + holder, x.judge(holder, 0), BAD);
    for (int loan : new int[] {-1, 1, 8}) for (int holder : new int[] {0, 4, 5}) due("loan " + loan, x.judge(holder, loan), BAD);
    LoanBook b = three(2000);
    b.row(0, 3);
    b.put(0, 2, 100000);
    due("BILLS without PRINCIPAL are told too", b.judge(0, 0), NOT);
  }

  private static void feed() {
    LoanBook x = new LoanBook();
    due("0", x.feed(0), 1);
    due("255", x.feed(255), 2);
    for (int letter : new int[] {-1, 256, Integer.MIN_VALUE, Integer.MAX_VALUE}) due("letter " + letter, x.feed(letter), BAD);
    for (int i = 3; i <= 120; i++) due("letter", x.feed('l'), i);
    due("full", x.feed('l'), FULL);
    due("BAD is first", x.feed(256), BAD);
    due("as many", x.count(6), 120);
  }

  private static int done(LoanBook x, String text) {
    for (int i = 0; i < text.length(); i++) x.feed(text.charAt(i));
    return x.script();
  }

  private static void scriptForm() {
    LoanBook x = new LoanBook();
    String[] texts = {"", "x", "l", "l ", "l  ", "l 1", "l 1 2 3 4 5", "l 1 2 3 4 5 ", "l 1 2 3 4 5 6 ", "l 1 2 3 4 5 6 7", "d", "d1", "d 1;", "d 1;;", "d 1 ", "d 1 1",
        "d 1;x", ";", "d 1234567890", "p 1", "p 1;", "p 1 1 1", "r 1 x", "w 1,", "g -1", "f 1;d", "D 1", "d +1", " d 1", "d 1; d 1", "d 1\u0000", "d 000000001;g 0000000001", "d 1;p 0 1;w"};
    int[] places = {0, 0, 1, 2, 2, 3, 11, 12, 13, 13, 1, 1, 4, 4, 3, 3, 4, 0, 11, 3, 3, 5, 4, 3, 2, 5, 0, 2, 0, 4, 3, 23, 11};
    for (int i = 0; i < texts.length; i++) {
      due("'" + texts[i] + "'", done(x, texts[i]), -1000 - places[i]);
      due("THE TAPE is empty", x.count(6), 0);
    }
    due("nothing was done", x.count(2) + x.count(0), 0);
    x = new LoanBook();
    StringBuilder all = new StringBuilder();
    for (int i = 0; i < 30; i++) all.append("d 1;");
    due("ends too early, as long as it may be", done(x, all.toString()), -1120);
    due("nothing was done", x.count(2), 0);
    due("119 bytes", done(x, all.substring(0, 119)), 30);
    due("thirty days", x.count(2), 30);
  }

  private static void scriptDone() {
    LoanBook x = new LoanBook();
    due("two LINES", done(x, "l 100000 1200 0 0 3 1;l 100000 1200 3 2 12 0"), 2);
    int[] first = {1200, 0, 0, 3, 1}, second = {1200, 3, 2, 12, 0};
    for (int what = 0; what < 5; what++) { due("first", x.of(0, what), first[what]); due("second", x.of(1, what), second[what]); }
    due("GRACE and LATE FEE", done(x, "g 007;f 0000250"), 2);
    due("GRACE", x.count(3), 7);
    due("LATE FEE", x.count(4), 250);
    due("days", done(x, "d 38"), 1);
    due("DAY", x.count(2), 38);
    due("OWED", x.sum(0, 3), 34253);
    due("paid", done(x, "p 0 34253;p 0 16997"), 2);
    due("LEVEL", x.sum(0, 2), 25376);
    due("reset", done(x, "r 0 0"), 1);
    due("LEVEL", x.sum(0, 2), 25000);
    due("written off", done(x, "w 0"), 1);
    due("LOST", x.sum(0, 7), 50000);
    due("the greatest numbers", done(x, "l 100000000 5000 3 2 60 1;p 2 999999999"), 2);
    due("all repaid", x.sum(2, 6), 100000000);
  }

  private static void scriptRefused() {
    LoanBook x = three(0);
    String[] lines = {"l 0 1 0 0 1 0", "l 100000001 1 0 0 1 0", "l 1 5001 0 0 1 0", "l 1 1 4 0 1 0", "l 1 1 0 3 1 0", "l 1 1 0 0 0 0", "l 1 1 0 0 61 0", "l 1 1 0 0 1 2", "l 1 1 0 0 101 0", "l 1 1 0 0 1 10",
        "p 1 1", "p 0 0", "r 1 0", "r 0 5001", "d 0", "d 4001", "w 1", "g 91", "f 10001"};
    int[] want = {1, 0, 0, 10, 500, 0, 0, 0};
    for (String line : lines) {
      x = three(0);
      due(line, done(x, "d 40;g 5;f 1;p 0 77777;r 0 7;" + line + ";d 1"), -2005);
      for (int i = 0; i < 8; i++) due("as it was " + i, x.count(i), want[i]);
      due("BALANCE", x.sum(0, 1), 100000);
      due("RATE", x.of(0, 0), 1200);
      due("LEVEL", x.sum(0, 2), 34003);
    }
    due("nothing to write off", done(x, "p 0 100000;w 0"), -2001);
    due("written off, once", done(x, "w 0;w 0"), -2001);
    due("all eight", done(x, "l 1 1 0 0 1 0;l 1 1 0 0 1 0;l 1 1 0 0 1 0;l 1 1 0 0 1 0;l 1 1 0 0 1 0;l 1 1 0 0 1 0;l 1 1 0 0 1 0;l 1 1 0 0 1 0"), -2007);
    due("one, as ahead", x.count(0), 1);
    due("a LOAN where another had been in vain", done(x, "l 60 0 0 0 3 0;d 31;p 1 50;g 91"), -2003);
    x.loan(90, 0, 0, 1002);
    due("BALANCE", x.sum(1, 1), 90);
    due("LEVEL", x.sum(1, 2), 0);
    due("PRINCIPAL GOT", x.sum(1, 6), 0);
    due("OWED", x.sum(1, 3), 0);
    due("DONE", x.of(1, 6), 0);
    due("two BILLS", x.coming(1, 0), 2);
    for (int i = 0; i < 9; i++) x.days(4000);
    due("too far", done(x, "d 524;d 1"), -2001);
    due("DAY", x.count(2), 36000);
    due("a FAULT of form is told first", done(x, "d 4001;d"), -1008);
  }

  private static void image() {
    LoanBook x = three(0);
    due("DAY 0", x.image(), 0);
    x.days(41);
    due("DAY 41", x.image(), 41);
    x.days(1);
    due("the later one", x.back(), 41);
  }

  private static void back() {
    LoanBook x = three(100);
    due("none", x.back(), STATE);
    x.days(41);
    x.pay(0, 700);
    x.image();
    x.rule(0, 1);
    x.rule(1, 1);
    x.pay(0, 60000);
    x.reset(0, 77);
    x.loan(5, 5, 0, 1);
    x.days(100);
    x.writeOff(0);
    x.feed('d');
    due("DAY", x.back(), 41);
    due("LOANS", x.count(0), 1);
    due("GRACE", x.count(3), 10);
    due("LATE FEE", x.count(4), 500);
    due("THE TAPE stays", x.count(6), 1);
    long[] want = {100000, 66997, 34003, 33803, 500, 200, 0, 0, 1007};
    for (int what = 0; what < 9; what++) due("sum " + what, x.sum(0, what), want[what]);
    int[] of = {1200, 0, 0, 3, 1, 0, 1, 1, 10, 60};
    for (int what = 0; what < 10; what++) due("of " + what, x.of(0, what), of[what]);
    x.rule(0, 30);
    x.days(20);
    due("that it had its FEE is kept too", x.bill(0, 0, 3), 0);
    x.pay(0, 1000);
    due("again", x.back(), 41);
    due("OWED", x.sum(0, 3), 33803);
    backAndHolders();
  }

  private static void backAndHolders() {
    LoanBook x = three(0);
    x.image();
    x.loan(100000, 1200, 0, 3);
    x.hold(0, 0, -1);
    x.hold(1, 1, -1);
    x.days(31);
    x.hold(2, 1, 0);
    x.row(3, 2);
    due("four", x.count(7), 4);
    x.back();
    due("the LOAN that was there", x.tells(0, 0), 0);
    due("the LOAN that came since", x.tells(1, 0), -11);
    due("the BILL is as it was then", x.tells(2, 2), 34003);
    due("the ROW", x.put(3, 1, 1), 1);
    due("three", x.count(7), 3);
    x.loan(7, 7, 0, 1);
    due("still nothing", x.tells(1, 0), -11);
    for (int h = 0; h < 6; h++) x.hold(h, 1, -1);
    due("six of a LOAN", x.count(7), 6);
    x.back();
    due("none", x.count(7), 0);
  }

  private static void backToTheLastPeriod() {
    LoanBook x = new LoanBook();
    x.loan(60000, 0, 2, 1060);
    x.days(x.settles(0) + 10);
    x.image();
    long owed = x.sum(0, 3);
    due("OWED", owed, 60000 + 60 * 500);
    due("the last BILL's FEE", x.bill(0, 59, 3), 500);
    for (int what = 0; what < 3; what++) due("in thought " + what, x.would(0, owed, what), new long[] {30000, 0, 60000}[what]);
    x.writeOff(0);
    x.back();
    due("OWED", x.sum(0, 3), owed);
    due("the last BILL", x.bill(0, 59, 2), 1000);
    x.pay(0, owed - 1000);
    x.image();
    x.rule(0, 11);
    x.days(1);
    x.pay(0, 1000);
    x.back();
    x.rule(0, 11);
    x.days(1);
    due("it had its FEE", x.sum(0, 3), 1000);
    LoanBook y = new LoanBook();
    y.loan(60000, 0, 2, 2060);
    y.days(y.settles(0) + 9);
    y.image();
    y.days(1);
    due("the FEE", y.sum(0, 3), 60500);
    y.back();
    due("no FEE yet", y.sum(0, 3), 60000);
    y.days(1);
    due("the FEE anew", y.sum(0, 3), 60500);
  }

  private static void thoughtByEachCount() {
    for (int count = 0; count < 4; count++) {
      LoanBook x = new LoanBook();
      x.loan(5000000, 4000, count, 160);
      long would = x.would(0, 1000000, 5), last = x.would(0, 4999999, 5);
      x.pay(0, 1000000);
      due("LEVEL by COUNT " + count, would, x.sum(0, 2));
      x.pay(0, 3999999);
      due("LEVEL of a cent", last, x.sum(0, 2));
    }
  }

  private static void hold() {
    LoanBook x = three(0);
    due("a LOAN", x.hold(5, 0, -1), 1);
    due("no BILL yet", x.hold(5, 0, 0), NOT);
    due("the LOAN is held yet", x.tells(5, 1), 100000);
    x.days(62);
    due("the first BILL", x.hold(0, 0, 0), 1);
    due("the second", x.hold(5, 0, 1), 1);
    due("its day", x.tells(5, 0), 60);
    due("no third", x.hold(5, 0, 2), NOT);
    due("far", x.hold(5, 0, Integer.MAX_VALUE), NOT);
    for (int holder : new int[] {-1, 6, Integer.MIN_VALUE, Integer.MAX_VALUE}) due("holder " + holder, x.hold(holder, 0, -1), BAD);
    for (int loan : new int[] {-1, 1, 8}) due("loan " + loan, x.hold(0, loan, -1), BAD);
    for (int bill : new int[] {-2, Integer.MIN_VALUE}) due("bill " + bill, x.hold(0, 0, bill), BAD);
    due("as it was", x.tells(5, 0), 60);
  }

  private static void row() {
    LoanBook x = three(0);
    due("60", x.row(0, 60), 1);
    due("its last", x.put(0, 59, 1), 1);
    due("none behind", x.put(0, 60, 1), -13);
    due("0", x.row(1, 0), 1);
    due("it holds something", x.count(7), 2);
    due("61", x.row(0, 61), BAD);
    due("below -1", x.row(0, -2), -14);
    due("far below", x.row(0, Integer.MIN_VALUE), -14);
    for (int holder : new int[] {-1, 6}) for (int n : new int[] {-2, -1, 0, 61}) due("holder " + holder, x.row(holder, n), BAD);
    due("held yet", x.put(0, 59, 1), 1);
    due("nothing", x.row(0, -1), 1);
    due("nothing is there", x.put(0, 59, 1), -11);
    due("nothing, again", x.row(0, -1), 1);
    x.row(2, 2);
    x.put(2, 0, 33003);
    due("told", x.judge(2, 0), 1);
    x.row(2, 2);
    due("a new ROW is 0", x.judge(2, 0), 0);
  }

  private static void put() {
    LoanBook x = three(2000);
    x.row(0, 3);
    due("first", x.put(0, 0, Long.MIN_VALUE), 1);
    due("otherwise", x.judge(0, 0), 0);
    due("again", x.put(0, 0, 0), 1);
    due("the last", x.put(0, 2, 100000), 1);
    due("told", x.judge(0, 0), NOT);
    for (int i : new int[] {-1, 3, Integer.MIN_VALUE, Integer.MAX_VALUE}) due("i " + i, x.put(0, i, 1), -13);
    due("nothing", x.put(1, 0, 1), -11);
    due("nothing, no place", x.put(1, 99, 1), -11);
    x.hold(1, 0, -1);
    due("a LOAN", x.put(1, 0, 1), -12);
    due("a LOAN, no place", x.put(1, -1, 1), -12);
    x.days(31);
    x.hold(2, 0, 0);
    due("a BILL", x.put(2, 0, 1), -12);
    x.row(3, 0);
    due("an empty ROW", x.put(3, 0, 1), -13);
    for (int holder : new int[] {-1, 6}) due("holder " + holder, x.put(holder, 0, 1), BAD);
  }

  private static void tells() {
    LoanBook x = three(0);
    x.loan(100000, 1200, 0, 1003);
    x.days(41);
    x.hold(0, 0, -1);
    x.hold(1, 1, -1);
    x.hold(2, 0, 0);
    x.row(3, 5);
    long[][] want = {{0, 66997, -12, 34003}, {1, 66667, -12, -12}, {31, -12, 34503, -12}, {-12, -12, -12, -12}, {-11, -11, -11, -11}};
    for (int h = 0; h < 5; h++) for (int as = 0; as < 4; as++) due("tells " + h + " " + as, x.tells(h, as), want[h][as]);
    x.pay(0, 40000);
    due("the BILL as it was then", x.tells(2, 2), 34503);
    due("the LOAN as it is", x.tells(0, 1), 66997 - 5497);
    for (int h = 0; h < 6; h++) for (int as : new int[] {-1, 4, Integer.MIN_VALUE, Integer.MAX_VALUE}) due("as " + as, x.tells(h, as), BAD);
    for (int h : new int[] {-1, 6, Integer.MIN_VALUE, Integer.MAX_VALUE}) due("holder " + h, x.tells(h, 0), BAD);
  }

  private static void count() {
    LoanBook x = three(0);
    x.loan(100000, 1200, 0, 1003);
    x.loan(100, 1200, 0, 2003);
    x.pay(2, 100);
    x.days(62);
    x.rule(0, 4);
    x.rule(1, 5);
    x.feed(0);
    x.feed(0);
    x.hold(5, 0, 1);
    int[] want = {3, 4, 62, 4, 5, 1, 2, 1};
    for (int i = 0; i < 8; i++) due("count " + i, x.count(i), want[i]);
    x.days(29);
    x.pay(1, 1000000);
    due("two are free of all", x.count(5), 2);
    due("BALANCE 0 with ARREARS is not", x.sum(0, 1), 0);
    for (int what : new int[] {-1, 8, Integer.MIN_VALUE, Integer.MAX_VALUE}) due("what " + what, x.count(what), BAD);
  }
}
