/** Each boundary case that the document names for what is in thought: promises 14 to 24, and their terms. */
public final class EdgesInThought extends Edges {
  public static void main(String[] args) {
    nothingChanges(); oneBehindAnother();
    toComeRefused(); toComePlaces(); toComeSkips();
    comingRefused(); comingNone(); comingGreatest();
    valueRefused(); valueInside(); valueFlows();
    yieldRefused(); yieldBrackets(); yieldEquals(); yieldNone();
    nearRefused(); nearest();
    durationRefused(); durationNone(); durationNumbers();
    behindRefused(); behindOlder(); behindBits();
    settlesRefused(); settlesDays();
    wouldRefused(); wouldCents(); wouldLevel();
    soonerRefused(); soonerNone(); soonerLeast();
    judgeRefused(); judgePlaces(); judgeEmpty(); judgeSixty();
    end();
  }

  private static LoanBook lent(long lent, int rate, int count, int kmn) {
    LoanBook x = new LoanBook();
    x.loan(lent, rate, count, kmn);
    return x;
  }

  /** BALANCE 0, with nothing TO COME: WRITTEN OFF, PREPAID whole, and all DONE. */
  private static LoanBook[] withoutFlows() {
    LoanBook written = three(0), prepaid = three(0), ended = three(0);
    written.writeOff(0);
    prepaid.pay(0, 100000);
    ended.days(91);
    return new LoanBook[] {written, prepaid, ended};
  }

  private static void nothingChanges() {
    says("In thought (nothing changes)");
    Call[] calls = {x -> x.toCome(0, 0, 3), x -> x.coming(0, 2), x -> x.value(0, 0), x -> x.yieldOf(0, 5), x -> x.near(0, 5), x -> x.duration(0, 0), x -> x.behind(0),
        x -> x.settles(0), x -> x.would(0, 1000000000, 5), x -> x.would(0, 99999, 5), x -> x.sooner(0, 1000000000), x -> x.sooner(0, 99999), x -> x.judge(2, 1)};
    for (int i = 0; i < calls.length; i++) {
      long answer = calls[i].on(rich());
      refused("call " + i, Edges::rich, calls[i], answer);
    }
  }

  /** Three LOANS that differ in DONE, in PERIODS and in how much: what was thought of one is nothing to the others. */
  private static LoanBook ofThree() {
    LoanBook x = three(0);
    x.days(62);
    x.loan(100000000, 5000, 3, 2060);
    x.loan(7, 0, 1, 1105);
    x.days(1);
    return x;
  }

  private static void oneBehindAnother() {
    says("In thought (nothing changes)");
    CallOf[] calls = {(x, loan) -> x.toCome(loan, 0, 1), (x, loan) -> x.toCome(loan, 1, 3), (x, loan) -> x.coming(loan, 0), (x, loan) -> x.coming(loan, 1), (x, loan) -> x.coming(loan, 2), (x, loan) -> x.sum(loan, 8),
        (x, loan) -> x.value(loan, bits(0.5)), (x, loan) -> x.yieldOf(loan, 3), (x, loan) -> x.near(loan, 3), (x, loan) -> x.duration(loan, bits(0.5)), (x, loan) -> x.would(loan, 5, 5), (x, loan) -> x.would(loan, 35000, 2),
        (x, loan) -> x.sooner(loan, 1000000), (x, loan) -> x.judge(0, loan), (x, loan) -> x.settles(loan)};
    for (int i = 0; i < calls.length; i++) for (int loan = 0; loan < 3; loan++) for (int ahead = 0; ahead < 3; ahead++) {
      LoanBook alone = ofThree(), behind = ofThree();
      alone.row(0, 2);
      behind.row(0, 2);
      for (CallOf other : calls) other.on(behind, ahead);
      due("call " + i + " of LOAN " + loan + " behind LOAN " + ahead, calls[i].on(behind, loan), calls[i].on(alone, loan));
    }
    LoanBook x = ofThree();
    due("the greatest of LOAN 1", x.coming(1, 2) > 100000000 ? 1 : 0, 1);
    due("behind it the greatest of LOAN 0, its last BILL", x.coming(0, 2), 34001);
  }

  // ---- promise 14

  private static void toComeRefused() {
    says("Of the i-th BILL TO COME: its day (what 0), INTEREST (1), PRINCIPAL (2), BALANCE then (3). BAD; NOT.");
    for (int what = 0; what < 4; what++) {
      int of = what;
      noSuchLoan((x, loan) -> x.toCome(loan, 0, of), BAD);
    }
    range("what", Edges::rich, (x, what) -> x.toCome(0, 0, what), 0, 3, BAD);
    range("BAD is named ahead of NOT: what", Edges::rich, (x, what) -> x.toCome(0, 9, what), 0, 3, BAD);
    refused("BAD is named ahead of NOT: LOAN", Edges::rich, x -> x.toCome(4, 9, 0), BAD);
    for (int i : new int[] {-1, LEAST}) refused("i " + i, Edges::rich, x -> x.toCome(0, i, 0), BAD);
    for (int i : new int[] {2, 3, 60, 61, MOST}) refused("i " + i, Edges::rich, x -> x.toCome(0, i, 0), NOT);
  }

  private static void toComePlaces() {
    says("TO COME of a LOAN: the BILLS that would come, with no payment and RATE as it is");
    LoanBook x = three(0);
    long[] want = {31, 1000, 33003, 66997, 60, 670, 33333, 33664, 91, 337, 33664, 0};
    int[] ends = {0, 31, 60, 91};
    for (int done = 0; done <= 3; done++) {
      goTo(x, ends[done]);
      for (int i = done; i < 3; i++) for (int what = 0; what < 4; what++) due("DONE " + done + ", " + i + " " + what, x.toCome(0, i - done, what), want[4 * i + what]);
      due("behind the last, DONE " + done, x.toCome(0, 3 - done, 0), NOT);
    }
    LoanBook ahead = three(0);
    ahead.days(30);
    due("on the day ahead of an END it is TO COME", ahead.toCome(0, 0, 0), 31);
    LoanBook sixty = lent(60000, 1200, 0, 1060);
    due("the sixtieth", sixty.toCome(0, 59, 0), sixty.dayOf(2005, 1, 1));
    due("its PRINCIPAL", sixty.toCome(0, 59, 2), 1000);
    due("BALANCE then", sixty.toCome(0, 59, 3) * 10 + sixty.toCome(0, 58, 3), 1000);
    due("none behind", sixty.toCome(0, 60, 0), NOT);
    for (LoanBook none : withoutFlows()) due("none", none.toCome(0, 0, 0), NOT);
    LoanBook reset = three(2000);
    reset.reset(0, 2400);
    due("RATE as it is", reset.toCome(0, 0, 1), 2000);
  }

  private static void toComeSkips() {
    says("A BILL with nothing to pay doesn't come.");
    LoanBook x = lent(100, 0, 0, 2003);
    due("the first that comes is of the last PERIOD", x.toCome(0, 0, 0), 91);
    due("no second", x.toCome(0, 1, 0), NOT);
    LoanBook half = lent(600, 100, 0, 2002), less = lent(599, 100, 0, 2002);
    due("half a cent of INTEREST comes", half.toCome(0, 0, 0), 31);
    due("less does not", less.toCome(0, 0, 0), 60);
  }

  // ---- promise 15

  private static void comingRefused() {
    says("How many BILLS are TO COME (what 0), the day of the last (1; NOT), the greatest of INTEREST and PRINCIPAL together (2). BAD.");
    for (int what = 0; what < 3; what++) {
      int of = what;
      noSuchLoan((x, loan) -> x.coming(loan, of), BAD);
    }
    range("what", Edges::rich, (x, what) -> x.coming(0, what), 0, 2, BAD);
    refused("BAD is named ahead of NOT", () -> goTo(three(0), 91), x -> x.coming(0, 3), BAD);
  }

  private static void comingNone() {
    says("the day of the last (1; NOT)");
    for (LoanBook x : withoutFlows()) {
      due("how many", x.coming(0, 0), 0);
      due("the last of none", x.coming(0, 1), NOT);
      due("the greatest of none", x.coming(0, 2), 0);
    }
    refused("the last of none", () -> goTo(three(0), 91), x -> x.coming(0, 1), NOT);
    LoanBook x = three(0);
    x.days(90);
    due("one", x.coming(0, 0), 1);
    due("its day", x.coming(0, 1), 91);
    x.days(1);
    due("none", x.coming(0, 0), 0);
    LoanBook sixty = lent(60000, 0, 0, 1060);
    due("sixty", sixty.coming(0, 0), 60);
    due("the last", sixty.coming(0, 1), sixty.dayOf(2005, 1, 1));
    LoanBook cent = lent(1, 0, 0, 60);
    due("the last BILL, not the last PERIOD", cent.coming(0, 0) * 100 + cent.coming(0, 1), 131);
  }

  private static void comingGreatest() {
    says("the greatest of INTEREST and PRINCIPAL together (2)");
    due("LEVEL: all but the last", three(0).coming(0, 2), 34003);
    due("EQUAL: the first", three(1000).coming(0, 2), 34333);
    due("BULLET: the last", three(2000).coming(0, 2), 101000);
    due("the most there is", lent(100000000, 5000, 1, 2001).coming(0, 2), 104305556);
    due("a cent", lent(1, 0, 0, 2060).coming(0, 2), 1);
  }

  // ---- promise 16

  private static final double[] INSIDE = {0.0, -0.0, Double.MIN_VALUE, Double.MIN_NORMAL - Double.MIN_VALUE, Double.MIN_NORMAL, 1e-300, 1.1102230246251565E-16, 2.220446049250313E-16,
      0.01, 1.0 - 1.1102230246251565E-16, 1.0, 1.0 + 2.220446049250313E-16, 9.999999999999998, 10.0};
  private static final long[] OUTSIDE = {bits(-Double.MIN_VALUE), bits(-Double.MIN_NORMAL), bits(-0.01), bits(-1.0), bits(-10.0), bits(-Double.MAX_VALUE), bits(10.000000000000002), bits(11.0),
      bits(Double.MAX_VALUE), bits(Double.POSITIVE_INFINITY), bits(Double.NEGATIVE_INFINITY), 0x7FF0000000000001L, 0x7FF8000000000000L, Long.MAX_VALUE, 0xFFF0000000000001L, 0xFFF8000000000000L, -1L};

  private static double valueBy(double r, long... flows) {
    double v = 0.0;
    for (int i = flows.length - 1; i >= 0; i--) v = (v + flows[i]) / (1.0 + r);
    return v;
  }

  private static void valueRefused() {
    says("0: no such LOAN, r below 0.0 or above 10.0, or no number.");
    noSuchLoan((x, loan) -> x.value(loan, bits(0.01)), 0);
    for (long r : OUTSIDE) refused("bits " + Long.toHexString(r), Edges::rich, x -> x.value(0, r), 0);
  }

  private static void valueInside() {
    says("VALUE by r as the bits of a double: bits.");
    for (double r : INSIDE) due("r " + r, three(0).value(0, bits(r)), bits(valueBy(r, 34003, 34003, 34001)));
    long[] sixty = new long[60];
    sixty[59] = 1;
    due("a cent, sixty PERIODS away by 10.0", lent(1, 0, 0, 2060).value(0, bits(10.0)), bits(valueBy(10.0, sixty)));
    due("the most, by 0.0", lent(100000000, 5000, 1, 2001).value(0, 0), bits(104305556.0));
  }

  private static void valueFlows() {
    says("PERIOD by PERIOD (0, if none comes)");
    due("none comes of the first two PERIODS", lent(100, 0, 0, 2003).value(0, bits(1.0)), bits(12.5));
    due("none behind the first", lent(1, 0, 0, 60).value(0, bits(1.0)), bits(0.5));
    for (LoanBook x : withoutFlows()) due("no FLOW above 0", x.value(0, bits(0.5)), 0);
    LoanBook x = three(0);
    goTo(x, 90);
    due("the last alone", x.value(0, bits(1.0)), bits(34001 / 2.0));
  }

  // ---- promise 17

  private static double yieldBy(double price, long... flows) {
    double low = 0.0, high = 1.0;
    for (int i = 0; i < 50; i++) {
      double mid = (low + high) / 2.0;
      if (valueBy(mid, flows) > price) low = mid; else high = mid;
    }
    return low;
  }

  private static void yieldRefused() {
    says("-1: no such LOAN, price below 1.");
    noSuchLoan((x, loan) -> x.yieldOf(loan, 1), -1);
    for (long price : new long[] {0, -1, Long.MIN_VALUE}) refused("price " + price, Edges::rich, x -> x.yieldOf(0, price), -1);
    for (long price : new long[] {1, 2, 1L << 53, (1L << 53) + 1, Long.MAX_VALUE}) due("price " + price, three(0).yieldOf(0, price), bits(yieldBy(price, 34003, 34003, 34001)));
  }

  private static final double STEP = 1.0 / (1L << 50);

  private static void yieldBrackets() {
    says("low 0.0, high 1.0; 50 times");
    due("up at each step: 1 less the 50th part", three(0).yieldOf(0, 1), bits(1.0 - STEP));
    due("down at each step", three(0).yieldOf(0, Long.MAX_VALUE), 0);
    // 2 cents at the END of one PERIOD are worth more than a cent by all that is below 1.0.
    due("just above the price", lent(2, 0, 0, 1).yieldOf(0, 1), bits(1.0 - STEP));
    due("just the price by 0.0", lent(2, 0, 0, 1).yieldOf(0, 2), 0);
    long[] sixty = new long[60];
    sixty[59] = 100000000;
    due("a cent less, sixty PERIODS away", lent(100000000, 0, 0, 2060).yieldOf(0, 99999999), bits(yieldBy(99999999.0, sixty)));
  }

  private static void yieldEquals() {
    says("if VALUE by mid is above the price: low is mid, else high is mid; low");
    due("VALUE by 0.5 is the price", lent(150, 0, 0, 1).yieldOf(0, 100), bits(0.5 - STEP));
    due("VALUE by 0.5 is above the price", lent(151, 0, 0, 1).yieldOf(0, 100), bits(yieldBy(100.0, 151)));
    due("at 0.5 at least", lent(151, 0, 0, 1).yieldOf(0, 100) >= bits(0.5) ? 1 : 0, 1);
    due("VALUE by 0.25 is the price", lent(125, 0, 0, 1).yieldOf(0, 100), bits(0.25 - STEP));
    due("VALUE by 0.75 is the price", lent(175, 0, 0, 1).yieldOf(0, 100), bits(0.75 - STEP));
  }

  private static void yieldNone() {
    says("PERIOD by PERIOD (0, if none comes)");
    for (LoanBook x : withoutFlows()) {
      due("no FLOW is above the price", x.yieldOf(0, 1), 0);
      due("nor its float", x.near(0, 1), 0);
    }
    due("the first two PERIODS are without", lent(100, 0, 0, 2003).yieldOf(0, 50), bits(yieldBy(50.0, 0, 0, 100)));
  }

  // ---- promise 18

  private static void nearRefused() {
    says("The bits of the float nearest to YIELD. BAD, likewise.");
    noSuchLoan((x, loan) -> x.near(loan, 1), BAD);
    for (long price : new long[] {0, -1, Long.MIN_VALUE}) refused("price " + price, Edges::rich, x -> x.near(0, price), BAD);
    due("price 1", three(0).near(0, 1), Float.floatToRawIntBits(1.0f));
    due("price at most", three(0).near(0, Long.MAX_VALUE), 0);
  }

  private static void nearest() {
    says("The bits of the float nearest to YIELD.");
    due("just below 0.5 is nearest to 0.5", lent(150, 0, 0, 1).near(0, 100), Float.floatToRawIntBits(0.5f));
    due("just below 1.0 is nearest to 1.0", lent(2, 0, 0, 1).near(0, 1), Float.floatToRawIntBits(1.0f));
    boolean up = false, down = false;
    for (long price = 90000; price < 90040; price++) {
      double y = yieldBy(price, 34003, 34003, 34001);
      float f = Float.intBitsToFloat(three(0).near(0, price)), above = Math.nextUp(f), below = Math.nextDown(f);
      due("none above is nearer, price " + price, above - y < Math.abs(f - y) ? 1 : 0, 0);
      due("none below is nearer, price " + price, y - below < Math.abs(f - y) ? 1 : 0, 0);
      up |= f > y;
      down |= f < y;
    }
    due("some up, some down", up && down ? 1 : 0, 1);
    due("far below 0.01", Float.intBitsToFloat(lent(100000000, 0, 0, 2060).near(0, 99999999)) == (float) Double.longBitsToDouble(lent(100000000, 0, 0, 2060).yieldOf(0, 99999999)) ? 1 : 0, 1);
  }

  // ---- promise 19

  private static void durationRefused() {
    says("DURATION by r: bits. 0: as value().");
    noSuchLoan((x, loan) -> x.duration(loan, bits(0.01)), 0);
    for (long r : OUTSIDE) refused("bits " + Long.toHexString(r), Edges::rich, x -> x.duration(0, r), 0);
    for (double r : INSIDE) due("r " + r, three(0).duration(0, bits(r)), bits(valueBy(r, 34003, 68006, 102003) / valueBy(r, 34003, 34003, 34001)));
  }

  private static void durationNone() {
    says("by VALUE (0.0, if VALUE is 0.0)");
    for (LoanBook x : withoutFlows()) for (double r : new double[] {0.0, 0.5, 10.0}) due("r " + r, x.duration(0, bits(r)), 0);
    long[] flow = new long[60], byNumber = new long[60];
    flow[59] = 1;
    byNumber[59] = 60;
    due("VALUE of a cent far away is not 0.0", lent(1, 0, 0, 2060).duration(0, bits(10.0)), bits(valueBy(10.0, byNumber) / valueBy(10.0, flow)));
  }

  private static void durationNumbers() {
    says("the same with flow times its number (1 ..) in place of flow");
    due("the first has number 1", lent(100, 0, 0, 2001).duration(0, 0), bits(1.0));
    due("the last of three has number 3", lent(100, 0, 0, 2003).duration(0, 0), bits(3.0));
    due("the last of sixty has number 60", lent(100, 0, 0, 2060).duration(0, 0), bits(60.0));
    LoanBook x = lent(100, 0, 0, 2003);
    x.days(31);
    due("numbers of PERIODS left", x.duration(0, 0), bits(2.0));
    x.days(59);
    due("the last day ahead", x.duration(0, 0), bits(1.0));
    x.days(1);
    due("none is left", x.duration(0, 0), 0);
  }

  // ---- promise 20

  private static void behindRefused() {
    says("BEHIND. BAD (n below 0).");
    for (int n : new int[] {-1, LEAST}) refused("n " + n, Edges::rich, x -> x.behind(n), BAD);
    due("n 0 of none", new LoanBook().behind(0), 0);
    due("n at most", rich().behind(MOST), 0);
  }

  private static void behindOlder() {
    says("BEHIND: LOANS (bits) with a BILL older than n days.");
    LoanBook x = three(0);
    x.days(31);
    due("of the day: not older than 0", x.behind(0), 0);
    x.days(1);
    due("a day old: older than 0", x.behind(0), 1);
    due("not older than 1", x.behind(1), 0);
    x.days(40);
    due("41 days, older than 40", x.behind(40), 1);
    due("not older than 41", x.behind(41), 0);
    x.pay(0, 34502);
    due("a cent of it is left", x.behind(40), 1);
    x.pay(0, 1);
    due("the oldest is paid", x.behind(40), 0);
    due("the next, 12 days old", x.behind(11), 1);
    due("not older than 12", x.behind(12), 0);
    LoanBook last = goTo(three(0), LAST_DAY);
    due("on the last day", last.behind(LAST_DAY - 32) * 10 + last.behind(LAST_DAY - 31), 10);
  }

  private static void behindBits() {
    says("LOANS (bits)");
    for (int paid = 0; paid < 8; paid++) {
      LoanBook x = full();
      due("all eight", x.behind(3), 255);
      due("not older than their days", x.behind(4), 0);
      x.pay(paid, x.sum(paid, 3));
      due("without LOAN " + paid, x.behind(0), 255 - (1 << paid));
    }
  }

  // ---- promise 21

  private static void settlesRefused() {
    says("SETTLES. BAD.");
    noSuchLoan((x, loan) -> x.settles(loan), BAD);
  }

  private static void settlesDays() {
    says("SETTLES: the least n (0 .. 36524 less DAY) days behind which DONE is all PERIODS.");
    for (int left : new int[] {91, 60, 31, 1, 0}) {
      LoanBook x = goTo(three(0), 91 - left);
      due("days left", x.settles(0), left);
      if (left > 1) due("not a day less", goTo(x, 90).of(0, 6), 2);
      due("then", goTo(x, 91).of(0, 6), 3);
    }
    due("long DONE", goTo(three(0), LAST_DAY).settles(0), 0);
    LoanBook last = onDay(36463);
    last.loan(5, 0, 0, 2);
    due("36524 less DAY", last.settles(0), LAST_DAY - 36463);
    LoanBook prepaid = three(0);
    prepaid.pay(0, 100000);
    due("PERIODS go by without BILLS", prepaid.settles(0), 91);
    due("sixty", lent(1, 0, 0, 60).settles(0), new LoanBook().dayOf(2005, 1, 1));
    due("one", lent(1, 0, 0, 1).settles(0), 31);
  }

  // ---- promise 22

  private static void wouldRefused() {
    says("WOULD: FEE (what 0), INTEREST (1), PRINCIPAL (2), PREPAID (3), given back (4), LEVEL (5). BAD.");
    for (int what = 0; what < 6; what++) {
      int of = what;
      noSuchLoan((x, loan) -> x.would(loan, 1, of), BAD);
      longRange("amount, what " + what, Edges::rich, (x, amount) -> x.would(0, amount, of), 1, 1000000000, BAD);
    }
    range("what", Edges::rich, (x, what) -> x.would(0, 1, what), 0, 5, BAD);
  }

  /** As pay() splits, a cent below, at and above each place where a part ends. */
  private static void wouldCents() {
    says("what a payment would be split in");
    long[] parts = {500, 1000, 33003, 500, 670, 33333, 33664};
    int[] whats = {0, 1, 2, 0, 1, 2, 3};
    LoanBook x = three(0);
    x.days(75);
    long upTo = 0;
    for (long part : parts) {
      upTo += part;
      for (long amount = upTo - 1; amount <= upTo + 1; amount++) {
        long left = amount;
        long[] want = new long[6];
        for (int i = 0; i < 7; i++) { long paid = Math.min(left, parts[i]); left -= paid; want[whats[i]] += paid; }
        want[4] = left;
        want[5] = 34003;
        for (int what = 0; what < 6; what++) due(amount + ", " + what, x.would(0, amount, what), want[what]);
      }
    }
    due("OWED stays", x.sum(0, 3), 69006);
    x.pay(0, 1500 + 33003 + 500 + 600);
    long[] rest = {0, 70, 33333, 33664, 5, 34003};
    for (int what = 0; what < 6; what++) due("of what was GOT ahead nothing, " + what, x.would(0, 70 + 33333 + 33664 + 5, what), rest[what]);
    for (LoanBook none : withoutFlows()) {
      none.writeOff(0);
      due("nothing is owed: all is given back", none.would(0, 1, 4), 1);
      for (int what = 0; what < 4; what++) due("nothing else, " + what, none.would(0, 1, what), 0);
    }
  }

  private static void wouldLevel() {
    says("LEVEL then");
    LoanBook x = three(100);
    x.days(31);
    due("ARREARS alone", x.would(0, 34003, 5), 34003);
    due("and a cent: 66996 for two PERIODS", x.would(0, 34004, 5), 34002);
    due("all but a cent of BALANCE", x.would(0, 34003 + 66996, 5), 1);
    due("all of BALANCE", x.would(0, 34003 + 66997, 5), 34003);
    due("more than all", x.would(0, 1000000000, 5), 34003);
    due("LEVEL stays", x.sum(0, 2), 34003);
    for (int count = 0; count < 4; count++) for (int periods : new int[] {1, 59, 60}) {
      LoanBook y = lent(100000000, 5000, count, 100 + periods);
      long would = y.would(0, 77777, 5);
      y.pay(0, 77777);
      due("of " + periods + " PERIODS, COUNT " + count, would, y.sum(0, 2));
    }
    due("SHORTEN", three(0).would(0, 99999, 5), 34003);
    due("EQUAL", three(1100).would(0, 99999, 5), 0);
    due("BULLET", three(2100).would(0, 99999, 5), 0);
  }

  // ---- promise 23

  private static void soonerRefused() {
    says("SOONER. BAD.");
    noSuchLoan((x, loan) -> x.sooner(loan, 1), BAD);
    for (int loan = 0; loan < 4; loan++) {
      int of = loan;
      longRange("amount", Edges::rich, (x, amount) -> x.sooner(of, amount), 1, 1000000000, BAD);
    }
  }

  private static void soonerNone() {
    says("the number (1 .. of PERIODS left) of the last FLOW with PRINCIPAL (0: none), less what that would be, were an amount PAID now");
    for (LoanBook x : withoutFlows()) due("none now", x.sooner(0, 1000000000), 0);
    for (int kind : new int[] {0, 100, 1000, 2000}) {
      due("none then", three(kind).sooner(0, 100000), 3);
      due("a cent then", three(kind).sooner(0, 99999), kind < 1000 ? 2 : 0);
      LoanBook x = three(kind);
      x.days(31);
      long owed = x.sum(0, 3), balance = x.sum(0, 1);
      due("ARREARS alone", x.sooner(0, owed), 0);
      due("and all of BALANCE, two are left", x.sooner(0, owed + balance), 2);
      due("all but a cent", x.sooner(0, owed + balance - 1), kind < 1000 ? 1 : 0);
    }
    LoanBook sixty = lent(60, 0, 0, 60);
    due("sixty less one", sixty.sooner(0, 59), 59);
    due("sixty", sixty.sooner(0, 60), 60);
    due("one", sixty.sooner(0, 1), 1);
    due("FLOWS without BILLS have numbers too", lent(5, 0, 0, 2060).sooner(0, 5), 60);
    LoanBook late = lent(60000, 0, 2, 1060);
    late.days(late.settles(0) - 1);
    due("the sixtieth alone is left", late.sooner(0, late.sum(0, 3) + 1000), 1);
    due("ARREARS of fifty-nine come first", late.sooner(0, late.sum(0, 3) + 999), 0);
  }

  private static void soonerLeast() {
    says("0 at least");
    LoanBook x = lent(9, 0, 0, 104);
    due("9 by LEVEL 3: three FLOWS", x.coming(0, 0), 3);
    due("8 by LEVEL 2 would be four: later, so 0", x.sooner(0, 1), 0);
    x.pay(0, 1);
    due("four", x.coming(0, 0), 4);
  }

  // ---- promise 24

  private static void judgeRefused() {
    says("A SCHEDULE told by the ROW in a HOLDER; NOT. BAD; -11; -12.");
    noSuchLoan((x, loan) -> x.judge(2, loan), BAD);
    range("holder", () -> { LoanBook x = rich(); x.row(0, 1); x.row(5, 1); return x; }, (x, holder) -> x.judge(holder, 0), 0, 5, BAD);
    refused("nothing", Edges::rich, x -> x.judge(4, 0), NOTHING);
    refused("a LOAN", Edges::rich, x -> x.judge(0, 0), SORT);
    refused("a BILL", Edges::rich, x -> x.judge(1, 0), SORT);
    refused("BAD is named ahead of -11", Edges::rich, x -> x.judge(4, 4), BAD);
    refused("BAD is named ahead of -12", Edges::rich, x -> x.judge(0, -1), BAD);
    refused("as told", Edges::rich, x -> x.judge(2, 1), NOT);
  }

  private static final long[] TOLD = {33003, 33333, 33664};

  private static LoanBook told(int n) {
    LoanBook x = three(0);
    x.row(0, n);
    for (int i = 0; i < n && i < 3; i++) x.put(0, i, TOLD[i]);
    return x;
  }

  private static void judgePlaces() {
    says("PRINCIPALS TO COME, one by one: the first otherwise, or beyond; as many as were told, if more come; NOT.");
    due("none told, three come", told(0).judge(0, 0), 0);
    due("one told", told(1).judge(0, 0), 1);
    due("two told", told(2).judge(0, 0), 2);
    due("three told", told(3).judge(0, 0), NOT);
    due("four told, the last one 0", told(4).judge(0, 0), 3);
    due("sixty told", told(60).judge(0, 0), 3);
    for (int at = 0; at < 3; at++) for (long other : new long[] {TOLD[at] - 1, TOLD[at] + 1, 0, -TOLD[at], Long.MIN_VALUE, Long.MAX_VALUE, TOLD[at] + (1L << 32)}) {
      LoanBook x = told(3);
      x.put(0, at, other);
      due("otherwise at " + at, x.judge(0, 0), at);
      for (int later = at + 1; later < 3; later++) x.put(0, later, 5);
      due("the first otherwise", x.judge(0, 0), at);
    }
    LoanBook x = told(3);
    x.days(31);
    due("the first has come: those TO COME are other ones", x.judge(0, 0), 0);
    x.row(1, 2);
    x.put(1, 0, 33333);
    x.put(1, 1, 33664);
    due("the two that are left", x.judge(1, 0), NOT);
  }

  private static void judgeEmpty() {
    says("as many as were told, if more come; NOT");
    for (LoanBook x : withoutFlows()) {
      x.row(0, 0);
      due("none told, none comes", x.judge(0, 0), NOT);
      x.row(1, 1);
      due("one told, none comes", x.judge(1, 0), 0);
    }
    LoanBook bullet = three(2000);
    bullet.row(0, 2);
    due("BILLS without PRINCIPAL come too: a third", bullet.judge(0, 0), 2);
    LoanBook skips = lent(100, 0, 0, 2003);
    skips.row(0, 1);
    skips.put(0, 0, 100);
    due("a BILL that doesn't come is not told", skips.judge(0, 0), NOT);
  }

  private static void judgeSixty() {
    says("a ROW of n (0 .. 60) longs, 0 at first");
    LoanBook x = lent(60000, 1200, 0, 1060);
    x.row(5, 60);
    for (int i = 0; i < 59; i++) x.put(5, i, 1000);
    due("the sixtieth is otherwise", x.judge(5, 0), 59);
    x.put(5, 59, 1000);
    due("all sixty", x.judge(5, 0), NOT);
    x.row(0, 59);
    for (int i = 0; i < 59; i++) x.put(0, i, 1000);
    due("one more comes", x.judge(0, 0), 59);
  }
}
