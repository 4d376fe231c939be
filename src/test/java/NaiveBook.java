import java.math.BigDecimal;
import java.math.BigInteger;
import java.time.LocalDate;
import java.time.temporal.ChronoUnit;
import java.util.ArrayList;
import java.util.List;
import java.util.regex.Pattern;

/** The document once more, told as plainly as it can be and as slowly: NaiveRuns compares LoanBook with it. */
final class NaiveBook {
  static final int BAD = -1, NOT = -2, FULL = -3, STATE = -5;
  static final LocalDate FIRST = LocalDate.of(2000, 1, 1);
  static final int LAST = 36524;

  static final class Bill {
    int day; long interest, principal, fee; boolean hadFee;
    Bill copy() { Bill b = new Bill(); b.day = day; b.interest = interest; b.principal = principal; b.fee = fee; b.hadFee = hadFee; return b; }
    long asks() { return interest + principal + fee; }
  }

  /** A BILL in thought, or what would be one: asks for nothing if none comes. */
  record Coming(int day, long interest, long principal, long balance) {
    long flow() { return interest + principal; }
  }

  record Split(long fee, long interest, long principal, long prepaid, long back) { }

  static final class Loan {
    long lent, balance, level, fees, interest, principal, lost;
    int rate, count, kind, periods, mode, start, done;
    List<Bill> arrears = new ArrayList<>();

    Loan copy() {
      Loan l = new Loan();
      l.lent = lent; l.balance = balance; l.level = level; l.fees = fees; l.interest = interest; l.principal = principal; l.lost = lost;
      l.rate = rate; l.count = count; l.kind = kind; l.periods = periods; l.mode = mode; l.start = start; l.done = done;
      for (Bill b : arrears) l.arrears.add(b.copy());
      return l;
    }

    int end(int k) {
      LocalDate s = FIRST.plusDays(start);
      LocalDate month = s.withDayOfMonth(1).plusMonths(k);
      return (int) ChronoUnit.DAYS.between(FIRST, month.withDayOfMonth(Math.min(s.getDayOfMonth(), month.lengthOfMonth())));
    }

    Coming next(int k, long from) {
      long i = interestOf(from, rate, count, end(k - 1), end(k));
      long p;
      if (k == periods) p = from;
      else if (kind == 0) p = Math.min(from, Math.max(0, level - i));
      else if (kind == 1) p = from / (periods - (k - 1));
      else p = 0;
      return new Coming(end(k), i, p, from - p);
    }

    boolean comesToZero(long a) {
      long b = balance;
      for (int k = done + 1; k <= periods; k++) {
        long repaid = a - interestOf(b, rate, count, end(k - 1), end(k));
        b -= Math.min(b, Math.max(0, repaid));
      }
      return b == 0;
    }

    void level() {
      if (kind != 0 || balance == 0) return;
      long low = -1, high = 200_000_000L;
      while (high - low > 1) { long mid = (low + high) >> 1; if (comesToZero(mid)) high = mid; else low = mid; }
      level = high;
    }

    List<Coming> flows() {
      List<Coming> all = new ArrayList<>();
      long b = balance;
      for (int k = done + 1; k <= periods; k++) { Coming c = next(k, b); all.add(c); b = c.balance(); }
      return all;
    }

    List<Coming> bills() {
      List<Coming> all = flows();
      all.removeIf(c -> c.flow() == 0);
      return all;
    }

    Split paid(long amount) {
      long left = amount, f = 0, i = 0, p = 0;
      while (left > 0 && !arrears.isEmpty()) {
        Bill b = arrears.get(0);
        long x = Math.min(left, b.fee); b.fee -= x; left -= x; f += x;
        x = Math.min(left, b.interest); b.interest -= x; left -= x; i += x;
        x = Math.min(left, b.principal); b.principal -= x; left -= x; p += x;
        if (b.asks() == 0) arrears.remove(0);
      }
      long pre = Math.min(left, balance);
      balance -= pre; left -= pre;
      fees += f; interest += i; principal += p + pre;
      if (pre > 0 && mode == 1) level();
      return new Split(f, i, p, pre, left);
    }

    int lastWithPrincipal() {
      int last = 0, number = 0;
      for (Coming c : flows()) { number++; if (c.principal() > 0) last = number; }
      return last;
    }

    double value(double r, boolean byNumber) {
      double v = 0.0;
      List<Coming> all = flows();
      for (int i = all.size(); i >= 1; i--) {
        double flow = all.get(i - 1).flow();
        if (byNumber) flow = flow * i;
        v = (v + flow) / (1.0 + r);
      }
      return v;
    }

    double yieldAt(long price) {
      double low = 0.0, high = 1.0;
      for (int i = 0; i < 50; i++) {
        double mid = (low + high) / 2.0;
        if (value(mid, false) > price) low = mid; else high = mid;
      }
      return low;
    }
  }

  static final class All {
    int day = 0, grace = 10, lateFee = 500;
    List<Loan> loans = new ArrayList<>();
    All copy() {
      All a = new All();
      a.day = day; a.grace = grace; a.lateFee = lateFee;
      for (Loan l : loans) a.loans.add(l.copy());
      return a;
    }
  }

  /** What a HOLDER holds: an Integer (a LOAN's number), a Bill, a long[] (a ROW) or null. */
  private final Object[] holders = new Object[6];
  private All all = new All();
  private All kept = null;
  private final StringBuilder tape = new StringBuilder();

  static long interestOf(long b, int rate, int count, int d, int e) {
    LocalDate from = FIRST.plusDays(d), to = FIRST.plusDays(e);
    BigInteger num, den;
    if (count == 0) {
      int n = 360 * (to.getYear() - from.getYear()) + 30 * (to.getMonthValue() - from.getMonthValue())
          + Math.min(30, to.getDayOfMonth()) - Math.min(30, from.getDayOfMonth());
      num = BigInteger.valueOf(n); den = BigInteger.valueOf(360);
    } else if (count < 3) {
      num = BigInteger.valueOf(e - d); den = BigInteger.valueOf(count == 1 ? 360 : 365);
    } else {
      long leap = 0, other = 0;
      for (LocalDate at = from; at.isBefore(to); ) {
        LocalDate next = at.withDayOfYear(1).plusYears(1);
        if (next.isAfter(to)) next = to;
        long n = ChronoUnit.DAYS.between(at, next);
        if (at.isLeapYear()) leap += n; else other += n;
        at = next;
      }
      num = BigInteger.valueOf(leap * 365 + other * 366); den = BigInteger.valueOf(365 * 366);
    }
    BigInteger top = num.multiply(BigInteger.valueOf(b)).multiply(BigInteger.valueOf(rate));
    BigInteger bottom = den.multiply(BigInteger.valueOf(10000));
    BigInteger[] whole = top.divideAndRemainder(bottom);
    boolean up = whole[1].multiply(BigInteger.TWO).compareTo(bottom) >= 0;
    return whole[0].longValueExact() + (up ? 1 : 0);
  }

  private boolean has(int loan) { return loan >= 0 && loan < all.loans.size(); }
  private static boolean in(long v, long least, long most) { return v >= least && v <= most; }

  int date(int day, int what) {
    if (!in(day, 0, LAST) || !in(what, 0, 3)) return BAD;
    LocalDate d = FIRST.plusDays(day);
    return what == 0 ? d.getYear() : what == 1 ? d.getMonthValue() : what == 2 ? d.getDayOfMonth() : d.isLeapYear() ? 1 : 0;
  }

  int dayOf(int year, int month, int day) {
    if (!in(year, 2000, 2099) || !in(month, 1, 12)) return BAD;
    if (!in(day, 1, LocalDate.of(year, month, 1).lengthOfMonth())) return BAD;
    return (int) ChronoUnit.DAYS.between(FIRST, LocalDate.of(year, month, day));
  }

  long interest(long b, int rate, int count, int d, int e) {
    if (!in(b, 0, 100_000_000) || !in(rate, 0, 5000) || !in(count, 0, 3) || !in(d, 0, LAST) || !in(e, d, LAST)) return BAD;
    return interestOf(b, rate, count, d, e);
  }

  int loan(long lent, int rate, int count, int kmn) {
    for (int kind = 0; kind < 3; kind++)
      for (int mode = 0; mode < 2; mode++)
        for (int n = 1; n <= 60; n++)
          if (kmn == 1000 * kind + 100 * mode + n) return lend(lent, rate, count, kind, n, mode);
    return BAD;
  }

  private int lend(long lent, int rate, int count, int kind, int periods, int mode) {
    if (!in(lent, 1, 100_000_000) || !in(rate, 0, 5000) || !in(count, 0, 3) || !in(kind, 0, 2) || !in(periods, 1, 60) || !in(mode, 0, 1)) return BAD;
    Loan l = new Loan();
    l.lent = lent; l.balance = lent; l.rate = rate; l.count = count; l.kind = kind; l.periods = periods; l.mode = mode; l.start = all.day;
    if (l.end(periods) > LAST) return STATE;
    if (all.loans.size() == 8) return FULL;
    l.level();
    all.loans.add(l);
    return all.loans.size() - 1;
  }

  int days(int n) {
    if (!in(n, 1, 4000)) return BAD;
    if (all.day + n > LAST) return STATE;
    int came = 0;
    for (int i = 0; i < n; i++) {
      all.day++;
      for (Loan l : all.loans) {
        if (l.done == l.periods || l.end(l.done + 1) != all.day) continue;
        Coming c = l.next(l.done + 1, l.balance);
        l.done++;
        if (l.balance == 0) continue;
        l.balance = c.balance();
        if (c.flow() == 0) continue;
        Bill b = new Bill();
        b.day = all.day; b.interest = c.interest(); b.principal = c.principal();
        l.arrears.add(b);
        came++;
      }
      for (Loan l : all.loans)
        for (Bill b : l.arrears)
          if (all.day - b.day == all.grace && !b.hadFee) { b.fee = all.lateFee; b.hadFee = true; }
    }
    return came;
  }

  long pay(int loan, long amount) {
    if (!has(loan) || !in(amount, 1, 1_000_000_000)) return BAD;
    return all.loans.get(loan).paid(amount).back();
  }

  long reset(int loan, int rate) {
    if (!has(loan) || !in(rate, 0, 5000)) return BAD;
    Loan l = all.loans.get(loan);
    l.rate = rate;
    l.level();
    return l.level;
  }

  long writeOff(int loan) {
    if (!has(loan)) return BAD;
    Loan l = all.loans.get(loan);
    if (l.balance == 0 && l.arrears.isEmpty()) return STATE;
    long gone = l.balance;
    for (Bill b : l.arrears) gone += b.principal;
    l.balance = 0; l.arrears.clear(); l.lost += gone;
    return gone;
  }

  int rule(int what, int v) {
    if (!in(what, 0, 1) || !in(v, 0, what == 0 ? 90 : 10000)) return BAD;
    int was = what == 0 ? all.grace : all.lateFee;
    if (what == 0) all.grace = v; else all.lateFee = v;
    return was;
  }

  int of(int loan, int what) {
    if (!has(loan) || !in(what, 0, 9)) return BAD;
    Loan l = all.loans.get(loan);
    int[] told = {l.rate, l.count, l.kind, l.periods, l.mode, l.start, l.done, l.arrears.size(),
        l.arrears.isEmpty() ? 0 : all.day - l.arrears.get(0).day, l.done == l.periods ? NOT : l.end(l.done + 1)};
    return told[what];
  }

  long sum(int loan, int what) {
    if (!has(loan) || !in(what, 0, 8)) return BAD;
    Loan l = all.loans.get(loan);
    long owed = 0, total = 0;
    for (Bill b : l.arrears) owed += b.asks();
    for (Coming c : l.bills()) total += c.interest();
    long[] told = {l.lent, l.balance, l.level, owed, l.fees, l.interest, l.principal, l.lost, total};
    return told[what];
  }

  long bill(int loan, int i, int what) {
    if (!has(loan) || i < 0 || !in(what, 0, 3)) return BAD;
    Loan l = all.loans.get(loan);
    if (i >= l.arrears.size()) return NOT;
    Bill b = l.arrears.get(i);
    return new long[] {b.day, b.interest, b.principal, b.fee}[what];
  }

  long toCome(int loan, int i, int what) {
    if (!has(loan) || i < 0 || !in(what, 0, 3)) return BAD;
    List<Coming> bills = all.loans.get(loan).bills();
    if (i >= bills.size()) return NOT;
    Coming c = bills.get(i);
    return new long[] {c.day(), c.interest(), c.principal(), c.balance()}[what];
  }

  long coming(int loan, int what) {
    if (!has(loan) || !in(what, 0, 2)) return BAD;
    List<Coming> bills = all.loans.get(loan).bills();
    long most = 0;
    for (Coming c : bills) most = Math.max(most, c.flow());
    return new long[] {bills.size(), bills.isEmpty() ? NOT : bills.get(bills.size() - 1).day(), most}[what];
  }

  private boolean refusesRate(int loan, long r) {
    double d = Double.longBitsToDouble(r);
    return !has(loan) || Double.isNaN(d) || d < 0.0 || d > 10.0;
  }

  long value(int loan, long r) {
    if (refusesRate(loan, r)) return 0;
    return Double.doubleToRawLongBits(all.loans.get(loan).value(Double.longBitsToDouble(r), false));
  }

  long yieldOf(int loan, long price) {
    if (!has(loan) || price < 1) return BAD;
    return Double.doubleToRawLongBits(all.loans.get(loan).yieldAt(price));
  }

  /** The nearest float, found in decimals rather than by the cast. */
  int near(int loan, long price) {
    if (!has(loan) || price < 1) return BAD;
    return Float.floatToRawIntBits(new BigDecimal(all.loans.get(loan).yieldAt(price)).floatValue());
  }

  long duration(int loan, long r) {
    if (refusesRate(loan, r)) return 0;
    Loan l = all.loans.get(loan);
    double d = Double.longBitsToDouble(r), v = l.value(d, false);
    return Double.doubleToRawLongBits(v == 0.0 ? 0.0 : l.value(d, true) / v);
  }

  int behind(int n) {
    if (n < 0) return BAD;
    int bits = 0;
    for (int i = 0; i < all.loans.size(); i++)
      for (Bill b : all.loans.get(i).arrears)
        if (all.day - b.day > n) bits |= 1 << i;
    return bits;
  }

  int settles(int loan) {
    if (!has(loan)) return BAD;
    Loan l = all.loans.get(loan);
    for (int n = 0; n <= LAST - all.day; n++) {
      int done = l.done;
      while (done < l.periods && l.end(done + 1) <= all.day + n) done++;
      if (done == l.periods) return n;
    }
    throw new IllegalStateException("a LOAN that never ends");
  }

  long would(int loan, long amount, int what) {
    if (!has(loan) || !in(amount, 1, 1_000_000_000) || !in(what, 0, 5)) return BAD;
    Loan l = all.loans.get(loan).copy();
    Split s = l.paid(amount);
    return new long[] {s.fee(), s.interest(), s.principal(), s.prepaid(), s.back(), l.level}[what];
  }

  int sooner(int loan, long amount) {
    if (!has(loan) || !in(amount, 1, 1_000_000_000)) return BAD;
    Loan l = all.loans.get(loan).copy();
    int now = l.lastWithPrincipal();
    l.paid(amount);
    return Math.max(0, now - l.lastWithPrincipal());
  }

  int judge(int holder, int loan) {
    if (!in(holder, 0, 5) || !has(loan)) return BAD;
    if (holders[holder] == null) return -11;
    if (!(holders[holder] instanceof long[] row)) return -12;
    List<Coming> bills = all.loans.get(loan).bills();
    for (int i = 0; i < row.length; i++)
      if (i >= bills.size() || bills.get(i).principal() != row[i]) return i;
    return bills.size() > row.length ? row.length : NOT;
  }

  int feed(int letter) {
    if (!in(letter, 0, 255)) return BAD;
    if (tape.length() == 120) return FULL;
    tape.append((char) letter);
    return tape.length();
  }

  private static final String NUMBER = " [0-9]{1,9}";
  private static final String LINE = "(l(" + NUMBER + "){6}|[pr](" + NUMBER + "){2}|[dwgf]" + NUMBER + ")";
  private static final Pattern TEXT = Pattern.compile(LINE + "(;" + LINE + ")*");

  /** Some TEXT begins with this: the matcher ran out of letters, or it is one. */
  private static boolean goesOn(String head) {
    var m = TEXT.matcher(head);
    return m.matches() || m.hitEnd();
  }

  int script() {
    String text = tape.toString();
    tape.setLength(0);
    if (!TEXT.matcher(text).matches()) {
      for (int i = 0; i < text.length(); i++)
        if (!goesOn(text.substring(0, i + 1))) return -1000 - i;
      return -1000 - text.length();
    }
    All before = all.copy();
    String[] lines = text.split(";");
    for (int i = 0; i < lines.length; i++) {
      if (!line(lines[i].split(" "))) { all = before; return -2000 - i; }
    }
    return lines.length;
  }

  private boolean line(String[] w) {
    int[] n = new int[w.length];
    for (int i = 1; i < w.length; i++) n[i] = Integer.parseInt(w[i]);
    return switch (w[0]) {
      case "l" -> lend(n[1], n[2], n[3], n[4], n[5], n[6]) >= 0;
      case "p" -> pay(n[1], n[2]) >= 0;
      case "r" -> reset(n[1], n[2]) >= 0;
      case "d" -> days(n[1]) >= 0;
      case "w" -> writeOff(n[1]) >= 0;
      case "g" -> rule(0, n[1]) >= 0;
      default -> rule(1, n[1]) >= 0;
    };
  }

  int image() { kept = all.copy(); return all.day; }

  int back() {
    if (kept == null) return STATE;
    all = kept.copy();
    for (int i = 0; i < 6; i++) if (holders[i] instanceof Integer l && !has(l)) holders[i] = null;
    return all.day;
  }

  int hold(int holder, int loan, int bill) {
    if (!in(holder, 0, 5) || !has(loan) || bill < -1) return BAD;
    List<Bill> arrears = all.loans.get(loan).arrears;
    if (bill >= arrears.size()) return NOT;
    holders[holder] = bill == -1 ? (Object) loan : arrears.get(bill).copy();
    return 1;
  }

  int row(int holder, int n) {
    if (!in(holder, 0, 5) || n > 60) return BAD;
    if (n < -1) return -14;
    holders[holder] = n == -1 ? null : new long[n];
    return 1;
  }

  int put(int holder, int i, long v) {
    if (!in(holder, 0, 5)) return BAD;
    if (holders[holder] == null) return -11;
    if (!(holders[holder] instanceof long[] row)) return -12;
    if (!in(i, 0, row.length - 1)) return -13;
    row[i] = v;
    return 1;
  }

  long tells(int holder, int as) {
    if (!in(holder, 0, 5) || !in(as, 0, 3)) return BAD;
    Object o = holders[holder];
    if (o == null) return -11;
    if (as == 0 && o instanceof Integer l) return l;
    if (as == 0 && o instanceof Bill b) return b.day;
    if (as == 1 && o instanceof Integer l) return all.loans.get(l).balance;
    if (as == 2 && o instanceof Bill b) return b.asks();
    if (as == 3 && o instanceof Integer l && all.loans.get(l).kind == 0) return all.loans.get(l).level;
    return -12;
  }

  int count(int what) {
    if (!in(what, 0, 7)) return BAD;
    int bills = 0, free = 0, held = 0;
    for (Loan l : all.loans) { bills += l.arrears.size(); if (l.balance == 0 && l.arrears.isEmpty()) free++; }
    for (Object o : holders) if (o != null) held++;
    return new int[] {all.loans.size(), bills, all.day, all.grace, all.lateFee, free, tape.length(), held}[what];
  }
}
