/** Each boundary case that the document names for texts, images and holders: promises 25 to 33, and their terms. */
public final class EdgesOfTexts extends Edges {
  public static void main(String[] args) {
    holdersAtFirst(); ownMemory();
    feedRefused(); feedFull(); feedFirst();
    scriptEmpty(); scriptEarly(); scriptEveryByte(); scriptDigits(); scriptLength(); scriptFaultChangesNothing();
    scriptInside(); scriptRefused(); scriptRefusedState(); scriptNumbers(); scriptTapeIsEmpty(); scriptLoanAnew();
    imageDays(); imageKeeps();
    backNone(); backAgain(); backHolders(); backLoanAnew();
    holdRefused(); holdBills(); holdAsItIsThen();
    rowRefused(); rowSizes(); rowAnew();
    putRefused(); putPlaces(); putFirst();
    tellsRefused(); tellsSorts(); tellsLevel();
    countRefused(); countAtFirstAndLast(); countFree();
    end();
  }

  private static final String MOST_LINES = "d 1;".repeat(29) + "d 1", MOST_BYTES = "d 01;" + "d 1;".repeat(28) + "d 1";

  private static void holdersAtFirst() {
    says("HOLDERS 0 .. 5 hold nothing (at first)");
    LoanBook x = three(0);
    for (int h = 0; h < 6; h++) {
      for (int as = 0; as < 4; as++) due("tells " + h + " as " + as, x.tells(h, as), NOTHING);
      due("put " + h, x.put(h, 0, 1), NOTHING);
      due("judge " + h, x.judge(h, 0), NOTHING);
      due("no HOLDER holds", x.count(7), 0);
    }
    for (int h : new int[] {-1, 6}) due("no HOLDER " + h, x.tells(h, 0), BAD);
  }

  private static void ownMemory() {
    says("All memory is the class's own.");
    LoanBook one = rich(), other = new LoanBook();
    for (int what = 0; what < 8; what++) due("a new object behind another: count " + what, other.count(what), what == 3 ? 10 : what == 4 ? 500 : 0);
    due("no IMAGE of the other", other.back(), STATE);
    other.loan(5, 5, 0, 5);
    other.image();
    other.rule(0, 1);
    other.days(400);
    other.row(2, 60);
    feed(other, "d 9;d 9");
    other.script();
    alike("the other one", one, rich());
  }

  // ---- promise 25

  private static void feedRefused() {
    says("A byte (0 .. 255) comes to THE TAPE: how many it has. BAD");
    range("letter", Edges::rich, (x, letter) -> x.feed(letter), 0, 255, BAD);
    LoanBook x = new LoanBook();
    due("0 is a byte", x.feed(0), 1);
    due("255 is a byte", x.feed(255), 2);
    due("it is there", x.script(), -1000);
  }

  private static void feedFull() {
    says("FULL (120)");
    LoanBook x = new LoanBook();
    for (int i = 1; i <= 120; i++) due("byte " + i, x.feed('d'), i);
    due("one more", x.feed('d'), FULL);
    due("as many", x.count(6), 120);
    refused("one more", () -> rich(MOST_BYTES), y -> y.feed(';'), FULL);
    due("119 and one", rich(MOST_LINES).feed('1'), 120);
  }

  private static void feedFirst() {
    says("Answers, of several the one named first");
    for (int letter : new int[] {-1, 256, LEAST, MOST}) refused("BAD ahead of FULL", () -> rich(MOST_BYTES), x -> x.feed(letter), BAD);
  }

  // ---- promise 26

  private static void scriptEmpty() {
    says("(the length, if it ends too early)");
    due("nothing", new LoanBook().script(), -1000);
    refused("nothing", () -> rich(""), x -> x.script(), -1000);
    LoanBook x = new LoanBook();
    due("a LINE", done(x, "d 1"), 1);
    due("nothing again", x.script(), -1000);
  }

  private static final String ALL_LINES = "l 1 2 3 0 5 1;p 0 7;r 0 5;d 3;w 0;g 4;f 6", LONG_NUMBERS = "p 000000000 000000007;d 000000003;l 000000001 000000000 000000000 000000000 000000001 000000000";

  /** Whether some TEXT goes on with a byte behind what one begins with. */
  private static boolean mayGoOn(String head, int b) {
    String line = head.substring(head.lastIndexOf(';') + 1);
    if (line.isEmpty()) return "lprdwgf".indexOf(b) >= 0;
    int wanted = line.charAt(0) == 'l' ? 6 : "pr".indexOf(line.charAt(0)) >= 0 ? 2 : 1;
    int numbers = (int) line.chars().filter(c -> c == ' ').count(), digits = line.length() - line.lastIndexOf(' ') - 1;
    boolean isDigit = b >= '0' && b <= '9';
    if (numbers == 0) return b == ' ';
    if (digits == 0) return isDigit;
    return isDigit && digits < 9 || b == ' ' && numbers < wanted || b == ';' && numbers == wanted;
  }

  private static LoanBook withOneLoan() {
    LoanBook x = new LoanBook();
    x.loan(500, 0, 0, 5);
    return x;
  }

  private static void scriptEarly() {
    says("(the length, if it ends too early)");
    for (String text : new String[] {ALL_LINES, LONG_NUMBERS, MOST_LINES}) {
      for (int length = 0; length <= text.length(); length++) {
        String head = text.substring(0, length);
        int answer = done(withOneLoan(), head);
        if (length == 0 || !mayGoOn(head, ';')) due("'" + head + "'", answer, -1000 - length);
        else due("'" + head + "' ends too early", answer > -1000 || answer <= -2000 ? 0 : 1, 0);
      }
    }
    due("a ; is wanting its LINE", done(new LoanBook(), "d 1;"), -1004);
    due("at the last byte of all", done(new LoanBook(), "d 1;".repeat(30)), -1120);
  }

  private static void scriptEveryByte() {
    says("FAULT of form: -1000 less the place of the first byte with which no TEXT goes on");
    for (String text : new String[] {ALL_LINES, LONG_NUMBERS.substring(0, 50)}) {
      for (int place = 0; place <= text.length(); place++) {
        String head = text.substring(0, place);
        for (int b = 0; b < 256; b++) {
          boolean goesOn = mayGoOn(head, b);
          int ended = done(withOneLoan(), head + (char) b), more = done(withOneLoan(), head + (char) b + ";;");
          String call = "'" + head + "' and byte " + b;
          if (goesOn) due(call + " goes on", ended == -1000 - place || more == -1000 - place ? 0 : 1, 1);
          else { due(call, ended, -1000 - place); due(call + " and more", more, -1000 - place); }
        }
      }
    }
  }

  private static void scriptDigits() {
    says("One blank ahead of each number, 1 to 9 digits.");
    String[] texts = {"d1", "d  1", "d 1 ", " d 1", "d ", "d", "d ;", "g 1234567890", "d 0000000001", "p 0  1", "p 01", "p 0;", "d 1; d 1", "d\t1", "d -1", "d +1", "d 1.0", "d 1;;d 1", ";d 1"};
    int[] places = {1, 2, 3, 0, 2, 1, 2, 11, 11, 4, 4, 3, 4, 1, 2, 2, 3, 4, 0};
    for (int i = 0; i < texts.length; i++) due("'" + texts[i] + "'", done(withOneLoan(), texts[i]), -1000 - places[i]);
    due("one digit", done(withOneLoan(), "d 1"), 1);
    due("nine digits", done(withOneLoan(), "d 000000001"), 1);
    due("the greatest of nine: given back", done(withOneLoan(), "p 0 999999999"), 1);
    due("of form, but refused", done(withOneLoan(), "d 999999999"), -2000);
  }

  private static void scriptLength() {
    says("THE TAPE (120 bytes at most): LINES with ; between");
    LoanBook x = new LoanBook();
    due("119 bytes", done(x, MOST_LINES), 30);
    due("DAY", x.count(2), 30);
    LoanBook y = new LoanBook();
    due("120 bytes", done(y, MOST_BYTES), 30);
    due("DAY", y.count(2), 30);
    LoanBook z = new LoanBook();
    due("121 bytes: the last one doesn't come", done(z, MOST_BYTES + "x"), 30);
    due("the last one of 120 is a FAULT", done(new LoanBook(), MOST_LINES + "x"), -1119);
    due("the first one", done(new LoanBook(), "x" + MOST_LINES), -1000);
  }

  private static void scriptFaultChangesNothing() {
    says("Else the LINES are done");
    for (String text : new String[] {"d 1;", "d 1;x", "p 0 5;d", "l 5 5 0 0 5 0;w 0;g 1;f 1;d 40;d 1234567890", "w 0;;"}) {
      LoanBook fault = new LoanBook();
      int answer = done(fault, text);
      due("a FAULT", answer <= -1000 && answer > -2000 ? 1 : 0, 1);
      refused("'" + text + "'", () -> rich(""), x -> done(x, text), answer);
    }
    due("a FAULT of form is told ahead of a LINE that would be refused", done(new LoanBook(), "d 0;d"), -1005);
  }

  private static void scriptInside() {
    says("\"l\" LENT RATE COUNT KIND PERIODS MODE: a LOAN; \"p\" LOAN AMOUNT: PAID; \"r\" LOAN RATE; \"d\" n: DAYS go (1 .. 4000); \"w\" LOAN: WRITTEN OFF; \"g\" GRACE; \"f\" LATE FEE.");
    String[] lines = {"l 1 0 0 0 1 0", "l 100000000 5000 3 2 60 1", "p 0 1", "p 3 1", "p 0 999999999", "r 0 0", "r 3 5000", "d 1", "d 4000", "w 0", "w 3", "g 0", "g 90", "f 0", "f 10000"};
    Call[] calls = {x -> x.loan(1, 0, 0, 1), x -> x.loan(100000000, 5000, 3, 2160), x -> x.pay(0, 1), x -> x.pay(3, 1), x -> x.pay(0, 999999999), x -> x.reset(0, 0), x -> x.reset(3, 5000),
        x -> x.days(1), x -> x.days(4000), x -> x.writeOff(0), x -> x.writeOff(3), x -> x.rule(0, 0), x -> x.rule(0, 90), x -> x.rule(1, 0), x -> x.rule(1, 10000)};
    for (int i = 0; i < lines.length; i++) {
      LoanBook byLine = rich(""), byCall = rich("");
      due(lines[i], done(byLine, lines[i]), 1);
      calls[i].on(byCall);
      alike(lines[i] + " does as its call does", byLine, byCall);
    }
  }

  private static void scriptRefused() {
    says("one that would be refused: -2000 less its number (from 0), and all is as it was");
    String[] lines = {"l 0 1 0 0 1 0", "l 100000001 1 0 0 1 0", "l 999999999 1 0 0 1 0", "l 1 5001 0 0 1 0", "l 1 1 4 0 1 0", "l 1 1 0 3 1 0", "l 1 1 0 0 0 0", "l 1 1 0 0 61 0", "l 1 1 0 0 101 0", "l 1 1 0 0 1 2",
        "l 1 1 0 0 1 10", "l 1 1 0 999999999 1 0", "p 4 1", "p 7 1", "p 8 1", "p 999999999 1", "p 0 0", "r 4 1", "r 999999999 1", "r 0 5001", "r 0 999999999", "d 0", "d 4001", "d 999999999", "w 4", "w 8", "w 999999999",
        "g 91", "g 999999999", "f 10001", "f 999999999"};
    for (String line : lines) {
      refused(line, () -> rich(""), x -> done(x, line), -2000);
      // LOAN 4 comes by the LINES ahead, so that LOAN 5 is the first that is not there.
      refused("the last: " + line, () -> rich(""), x -> done(x, "d 40;p 0 999;r 1 7;g 3;f 9;w 2;l 5 0 0 0 5 0;" + line.replace(" 4", " 5")), -2007);
      refused("the first: " + line, () -> rich(""), x -> done(x, line + ";d 1"), -2000);
    }
  }

  private static void scriptRefusedState() {
    says("one that would be refused");
    refused("beyond the last day", () -> onDay(LAST_DAY - 5), x -> done(x, "d 6"), -2000);
    refused("a day beyond, behind another LINE", () -> onDay(LAST_DAY - 5), x -> done(x, "d 5;d 1"), -2001);
    due("just up to the last day", done(onDay(LAST_DAY - 5), "d 5"), 1);
    refused("an END beyond", () -> onDay(36463), x -> done(x, "l 5 0 0 0 3 0"), -2000);
    due("an END on the last day", done(onDay(36463), "l 5 0 0 0 2 0"), 1);
    refused("the ninth LOAN", Edges::full, x -> done(x, "g 1;l 5 0 0 0 2 0"), -2001);
    due("LOAN 7", done(full(), "p 7 1;r 7 1;w 7"), 3);
    refused("LOAN 8", Edges::full, x -> done(x, "p 7 1;p 8 1"), -2001);
    refused("WRITTEN OFF and then again", Edges::full, x -> done(x, "w 7;w 7"), -2001);
    refused("nothing to write off", () -> rich(""), x -> done(x, "p 1 999999999;w 1"), -2001);
    refused("a LOAN that has not come yet", LoanBook::new, x -> done(x, "p 0 1;l 5 0 0 0 2 0"), -2000);
    due("one that came a LINE ahead", done(new LoanBook(), "l 5 0 0 0 2 0;p 0 1"), 2);
  }

  private static void scriptNumbers() {
    says("THE TAPE's TEXT is done: how many LINES; -1000, -2000 as told.");
    for (int lines = 1; lines <= 30; lines++) {
      String text = "d 1;".repeat(lines - 1);
      due("all of " + lines, done(new LoanBook(), text + "d 1"), lines);
      due("the last of " + lines, done(new LoanBook(), text + "d 0"), -2000 - (lines - 1));
    }
    LoanBook x = new LoanBook();
    due("the first one that would be refused", done(x, "d 1;d 0;d 4001;d 1"), -2001);
    due("DAY", x.count(2), 0);
  }

  private static void scriptTapeIsEmpty() {
    says("THE TAPE is empty then.");
    for (String text : new String[] {"", "x", "d 1", "d 0", "d 1;", MOST_LINES, MOST_BYTES, "x".repeat(120), "d 1;".repeat(30)}) {
      LoanBook x = new LoanBook();
      done(x, text);
      due("behind '" + text + "'", x.count(6), 0);
      due("the next byte", x.feed('d'), 1);
      due("nothing is left of the other", done(x, " 2"), 1);
    }
  }

  private static void scriptLoanAnew() {
    says("and all is as it was");
    LoanBook x = withOneLoan();
    due("a LOAN in vain", done(x, "l 60 5000 1 0 3 1;d 45;p 1 50;r 1 7;w 1;d 0"), -2005);
    due("one LOAN", x.count(0), 1);
    due("its number again", x.loan(90, 0, 0, 2002), 1);
    long[] sums = {90, 90, 0, 0, 0, 0, 0, 0, 0};
    int[] of = {0, 0, 2, 2, 0, 0, 0, 0, 0, 31};
    for (int what = 0; what < 9; what++) due("sum " + what, x.sum(1, what), sums[what]);
    for (int what = 0; what < 10; what++) due("of " + what, x.of(1, what), of[what]);
    x.days(91);
    due("its BILL had no FEE yet", x.bill(1, 0, 3), 500);
    LoanBook sixty = new LoanBook();
    sixty.loan(60000, 0, 2, 1060);
    sixty.days(sixty.settles(0) + 10);
    due("sixty BILLS with FEES", sixty.sum(0, 3), 90000);
    due("WRITTEN OFF in vain", done(sixty, "w 0;d 0"), -2001);
    due("all sixty are as they were", sixty.sum(0, 3), 90000);
    due("the last one", sixty.bill(0, 59, 2) + sixty.bill(0, 59, 3), 1500);
    due("paid in vain", done(sixty, "p 0 90000;d 0"), -2001);
    due("all sixty are as they were", sixty.sum(0, 3), 90000);
    due("its FEE, paid", sixty.pay(0, 89000), 0);
    due("in vain, another GRACE", done(sixty, "g 11;d 1;d 0"), -2002);
    due("the last one had its FEE", done(sixty, "g 11;d 1") * 10000 + sixty.sum(0, 3), 21000);
  }

  // ---- promise 27

  private static void imageDays() {
    says("AN IMAGE is kept: DAY.");
    for (int day : new int[] {0, 1, LAST_DAY - 1, LAST_DAY}) {
      LoanBook x = onDay(day);
      due("on day " + day, x.image(), day);
      due("laid back", x.back(), day);
    }
    LoanBook x = new LoanBook();
    x.image();
    goTo(x, LAST_DAY);
    due("from the last day to the first", x.back(), 0);
    due("DAY", x.count(2), 0);
    due("days go again", x.days(4000), 0);
    refused("an IMAGE of what is so", () -> { LoanBook y = rich(); y.image(); return y; }, y -> y.image(), 96);
  }

  private static void imageKeeps() {
    says("AN IMAGE keeps all of 1.");
    Call[] changes = {x -> x.days(1), x -> x.days(4000), x -> x.pay(0, 1), x -> x.pay(1, 1000000), x -> x.reset(0, 1), x -> x.reset(2, 0), x -> x.writeOff(0), x -> x.writeOff(2), x -> x.rule(0, 3), x -> x.rule(1, 3),
        x -> x.loan(5, 5, 0, 5), x -> { for (int i = 0; i < 4; i++) x.loan(5, 5, 0, 5); return 0; }};
    Made kept = () -> { LoanBook x = rich(); x.image(); return x; };
    for (int i = 0; i < changes.length; i++) {
      Call change = changes[i];
      refused("change " + i, kept, x -> { change.on(x); return x.back(); }, 96);
    }
    LoanBook x = kept.make();
    x.feed(';');
    x.row(4, 1);
    x.row(2, -1);
    x.back();
    due("THE TAPE is not of 1", x.count(6), 4);
    due("nor are HOLDERS", x.count(7), 4);
    due("what is held since", x.put(4, 0, 1), 1);
    due("what is held no more", x.put(2, 0, 1), NOTHING);
  }

  // ---- promise 28

  private static void backNone() {
    says("STATE: there is none.");
    refused("a new object", LoanBook::new, x -> x.back(), STATE);
    refused("a book without AN IMAGE", () -> goTo(three(0), 45), x -> x.back(), STATE);
    LoanBook x = three(0);
    x.days(1);
    due("none", x.back(), STATE);
    due("DAY as it was", x.count(2), 1);
    x.image();
    due("now there is", x.back(), 1);
  }

  private static void backAgain() {
    says("It is laid back");
    LoanBook x = three(0);
    x.image();
    for (int i = 0; i < 5; i++) {
      x.days(45);
      x.pay(0, 5000);
      due("again", x.back(), 0);
      due("BALANCE", x.sum(0, 1), 100000);
      due("OWED", x.sum(0, 3), 0);
      due("GOT", x.sum(0, 4) + x.sum(0, 5) + x.sum(0, 6), 0);
    }
    LoanBook fee = three(0);
    fee.days(40);
    fee.image();
    fee.days(1);
    fee.back();
    due("no FEE yet", fee.bill(0, 0, 3), 0);
    fee.days(1);
    due("the FEE again", fee.bill(0, 0, 3), 500);
    fee.image();
    fee.pay(0, 500);
    fee.back();
    fee.rule(0, 11);
    fee.days(1);
    due("once: that it came is kept", fee.bill(0, 0, 3), 500);
    LoanBook later = three(0);
    later.image();
    later.days(10);
    later.image();
    later.days(10);
    due("the later one", later.back(), 10);
  }

  private static void backHolders() {
    says("(HOLDERS of LOANS that came since hold nothing)");
    for (int ahead = 0; ahead < 8; ahead++) {
      LoanBook x = new LoanBook();
      for (int i = 0; i < ahead; i++) x.loan(90000, 1200, 0, 3);
      x.image();
      for (int i = ahead; i < 8; i++) x.loan(90000, 1200, 0, 3);
      x.hold(0, ahead, -1);
      x.hold(1, 7, -1);
      if (ahead > 0) x.hold(5, ahead - 1, -1);
      x.row(2, 3);
      x.back();
      due("the first that came since", x.tells(0, 0), NOTHING);
      due("the last that came since", x.tells(1, 0), NOTHING);
      due("a ROW", x.tells(2, 0), SORT);
      due("one that was there", x.tells(5, 0), ahead > 0 ? ahead - 1 : NOTHING);
      due("HOLDERS that hold something", x.count(7), ahead > 0 ? 2 : 1);
      x.loan(5, 5, 0, 1);
      due("another LOAN of that number is not held", x.tells(0, 0), NOTHING);
    }
    LoanBook all = new LoanBook();
    all.image();
    all.loan(5, 5, 0, 1);
    for (int h = 0; h < 6; h++) all.hold(h, 0, -1);
    due("six", all.count(7), 6);
    all.back();
    due("none", all.count(7), 0);
    LoanBook bill = three(0);
    bill.days(41);
    bill.image();
    bill.hold(3, 0, 0);
    bill.pay(0, 34503);
    bill.back();
    due("a BILL is as it was then", bill.tells(3, 2), 34503);
  }

  private static void backLoanAnew() {
    says("It is laid back");
    LoanBook x = new LoanBook();
    x.image();
    for (int i = 0; i < 8; i++) x.loan(100000, 1200, 0, 3);
    x.days(75);
    for (int i = 0; i < 8; i++) x.pay(i, 2000);
    x.writeOff(7);
    due("DAY", x.back(), 0);
    due("LOANS", x.count(0), 0);
    for (int i = 0; i < 8; i++) {
      due("LOAN " + i + " is no more", x.of(i, 0), BAD);
      due("LOAN " + i, x.loan(90, 0, 0, 1003), i);
      long[] sums = {90, 90, 0, 0, 0, 0, 0, 0, 0};
      for (int what = 0; what < 9; what++) due("sum " + what, x.sum(i, what), sums[what]);
      due("DONE and BILLS", x.of(i, 6) + x.of(i, 7), 0);
    }
    x.days(41);
    for (int i = 0; i < 8; i++) due("FEE of LOAN " + i, x.bill(i, 0, 3), 500);
    LoanBook sixty = new LoanBook();
    sixty.image();
    for (int i = 0; i < 2; i++) {
      due("the only LOAN", sixty.loan(60000, 1200, 2, 1060), 0);
      due("sixty BILLS", sixty.days(sixty.settles(0) + 9), 60);
      due("no FEE of the last yet", sixty.bill(0, 59, 3), 0);
      sixty.days(1);
      due("its FEE", sixty.bill(0, 59, 3), 500);
      due("FEE of the first", sixty.bill(0, 0, 3), 500);
      sixty.back();
    }
    LoanBook late = new LoanBook();
    late.loan(60000, 1200, 2, 160);
    late.image();
    long level = late.sum(0, 2);
    late.days(late.settles(0) + 10);
    due("sixty BILLS", late.of(0, 7), 60);
    late.back();
    due("none", late.of(0, 7), 0);
    due("LEVEL of all sixty PERIODS", late.reset(0, 1200), level);
    late.days(late.settles(0) + 9);
    due("the last has no FEE yet", late.bill(0, 59, 3), 0);
    late.image();
    late.days(1);
    due("its FEE", late.bill(0, 59, 3), 500);
    late.back();
    due("none yet", late.bill(0, 59, 3), 0);
    late.days(1);
    due("its FEE again", late.bill(0, 59, 3), 500);
    long owed = late.sum(0, 3);
    late.image();
    late.pay(0, owed);
    late.back();
    due("all as it was", late.sum(0, 3), owed);
  }

  // ---- promise 29

  private static void holdRefused() {
    says("A HOLDER holds a LOAN (bill -1), or its i-th BILL in ARREARS: 1. BAD; NOT: no such BILL.");
    noSuchLoan((x, loan) -> x.hold(0, loan, -1), BAD);
    noSuchLoan((x, loan) -> x.hold(0, loan, 0), BAD);
    range("holder of a LOAN", Edges::rich, (x, holder) -> x.hold(holder, 0, -1), 0, 5, BAD);
    range("holder of a BILL", Edges::rich, (x, holder) -> x.hold(holder, 0, 0), 0, 5, BAD);
    for (int h = 0; h < 6; h++) {
      int holder = h;
      for (int bill : new int[] {-2, LEAST}) refused("bill " + bill, Edges::rich, x -> x.hold(holder, 0, bill), BAD);
      for (int bill : new int[] {2, 3, 60, MOST}) refused("bill " + bill, Edges::rich, x -> x.hold(holder, 0, bill), NOT);
    }
    refused("BAD is named ahead of NOT: HOLDER", Edges::rich, x -> x.hold(6, 0, 9), BAD);
    refused("BAD is named ahead of NOT: LOAN", Edges::rich, x -> x.hold(0, 4, 9), BAD);
    refused("none is in ARREARS", () -> three(0), x -> x.hold(0, 0, 0), NOT);
  }

  private static void holdBills() {
    says("its i-th BILL in ARREARS");
    LoanBook x = new LoanBook();
    x.loan(60000, 0, 2, 1060);
    x.days(x.settles(0));
    for (int h = 0; h < 6; h++) due("HOLDER " + h, x.hold(h, 0, h < 3 ? h : h + 54), 1);
    int[] days = {31, 60, 91, x.dayOf(2004, 11, 1), x.dayOf(2004, 12, 1), x.dayOf(2005, 1, 1)};
    for (int h = 0; h < 6; h++) due("its day", x.tells(h, 0), days[h]);
    due("no sixty-first", x.hold(0, 0, 60), NOT);
    due("the other is held yet", x.tells(0, 0), 31);
    due("a LOAN takes its place", x.hold(0, 0, -1), 1);
    due("its number", x.tells(0, 0), 0);
    due("six hold something", x.count(7), 6);
  }

  private static void holdAsItIsThen() {
    says("a BILL of a LOAN as it is then");
    LoanBook x = three(0);
    x.days(40);
    x.hold(0, 0, 0);
    x.days(1);
    x.hold(1, 0, 0);
    x.pay(0, 34502);
    x.hold(2, 0, 0);
    x.pay(0, 1);
    due("without FEE", x.tells(0, 2), 34003);
    due("with FEE", x.tells(1, 2), 34503);
    due("a cent", x.tells(2, 2), 1);
    x.writeOff(0);
    for (int h = 0; h < 3; h++) due("its day", x.tells(h, 0), 31);
  }

  // ---- promise 30

  private static void rowRefused() {
    says("BAD (HOLDER, n above 60); -14 (n below -1).");
    range("holder", Edges::rich, (x, holder) -> x.row(holder, 5), 0, 5, BAD);
    for (int n : new int[] {LEAST, -2, -1, 0, 60, 61, MOST}) for (int holder : new int[] {LEAST, -1, 6, MOST}) refused("holder " + holder + " is named first", Edges::rich, x -> x.row(holder, n), BAD);
    for (int h = 0; h < 6; h++) {
      int holder = h;
      for (int n : new int[] {61, 62, MOST}) refused("n " + n, Edges::rich, x -> x.row(holder, n), BAD);
      for (int n : new int[] {-2, -3, LEAST}) refused("n " + n, Edges::rich, x -> x.row(holder, n), SIZE);
    }
  }

  private static void rowSizes() {
    says("A HOLDER holds nothing (n -1), or a new ROW: 1.");
    for (int n : new int[] {0, 1, 59, 60}) {
      LoanBook x = new LoanBook();
      due("n " + n, x.row(0, n), 1);
      due("it holds something", x.count(7), 1);
      if (n > 0) due("its first", x.put(0, 0, 1), 1);
      if (n > 0) due("its last", x.put(0, n - 1, 1), 1);
      due("none behind", x.put(0, n, 1), PLACE);
    }
    for (int h = 0; h < 6; h++) {
      LoanBook x = rich();
      int held = x.count(7);
      due("nothing", x.row(h, -1), 1);
      due("HOLDER " + h, x.tells(h, 0), NOTHING);
      due("one less, if it held something", x.count(7), h < 4 ? held - 1 : held);
      due("nothing, again", x.row(h, -1), 1);
    }
  }

  private static void rowAnew() {
    says("a ROW of n (0 .. 60) longs, 0 at first");
    LoanBook x = new LoanBook();
    x.loan(59, 1200, 0, 2060);
    x.loan(1, 0, 0, 2001);
    x.row(0, 60);
    due("all 0 at first, the last is otherwise", x.judge(0, 0), 59);
    for (int i = 0; i < 60; i++) x.put(0, i, 7);
    x.put(0, 59, 59);
    due("otherwise", x.judge(0, 0), 0);
    x.row(0, 60);
    due("a new one: all 0", x.judge(0, 0), 59);
    for (int i = 0; i < 60; i++) x.put(0, i, 7);
    x.row(0, 0);
    due("an empty one", x.put(0, 0, 1), PLACE);
    x.row(0, 60);
    due("a longer one is new as well", x.judge(0, 0), 59);
    x.put(0, 59, 59);
    x.row(0, -1);
    x.row(0, 60);
    due("behind nothing too", x.judge(0, 0), 59);
    x.put(0, 59, 59);
    due("told", x.judge(0, 0), NOT);
    x.row(1, 60);
    due("each HOLDER has its own", x.judge(1, 0) * 10 + x.judge(0, 0), 588);
  }

  // ---- promise 31

  private static void putRefused() {
    says("Item i of a ROW becomes v: 1. BAD (HOLDER); -11; -12; -13.");
    range("holder", () -> { LoanBook x = rich(); x.row(0, 1); x.row(5, 1); return x; }, (x, holder) -> x.put(holder, 0, 9), 0, 5, BAD);
    range("i", Edges::rich, (x, i) -> x.put(2, i, 9), 0, 3, PLACE);
    for (int i : new int[] {-1, 0, 1}) refused("an empty ROW", Edges::rich, x -> x.put(3, i, 9), PLACE);
    for (int h : new int[] {4, 5}) refused("nothing", Edges::rich, x -> x.put(h, 0, 9), NOTHING);
    refused("a LOAN", Edges::rich, x -> x.put(0, 0, 9), SORT);
    refused("a BILL", Edges::rich, x -> x.put(1, 0, 9), SORT);
  }

  private static void putPlaces() {
    says("Item i of a ROW becomes v: 1.");
    LoanBook x = new LoanBook();
    x.loan(59, 1200, 0, 2060);
    x.row(5, 60);
    x.put(5, 59, 59);
    for (int i : new int[] {0, 1, 58}) {
      for (long v : new long[] {Long.MIN_VALUE, -1, 1, Long.MAX_VALUE, 1L << 32}) {
        due("v " + v, x.put(5, i, v), 1);
        due("it is at " + i, x.judge(5, 0), i);
      }
      due("0 again", x.put(5, i, 0), 1);
      due("all as told", x.judge(5, 0), NOT);
    }
    due("none behind", x.put(5, 60, 1), PLACE);
    due("none ahead", x.put(5, -1, 1), PLACE);
    due("all as told", x.judge(5, 0), NOT);
  }

  private static void putFirst() {
    says("Answers, of several the one named first");
    for (int i : new int[] {-1, 60, LEAST, MOST}) {
      refused("BAD ahead of all", Edges::rich, x -> x.put(6, i, 9), BAD);
      refused("-11 ahead of -13", Edges::rich, x -> x.put(4, i, 9), NOTHING);
      refused("-12 ahead of -13, a LOAN", Edges::rich, x -> x.put(0, i, 9), SORT);
      refused("-12 ahead of -13, a BILL", Edges::rich, x -> x.put(1, i, 9), SORT);
    }
  }

  // ---- promise 32

  private static void tellsRefused() {
    says("What is in a HOLDER, taken for a sort (as), tells. BAD; -11; -12.");
    for (int a = 0; a < 4; a++) {
      int as = a;
      range("holder, as " + as, Edges::rich, (x, holder) -> x.tells(holder, as), 0, 5, BAD);
      refused("nothing, as " + as, Edges::rich, x -> x.tells(4, as), NOTHING);
      refused("a ROW, as " + as, Edges::rich, x -> x.tells(2, as), SORT);
      refused("an empty ROW, as " + as, Edges::rich, x -> x.tells(3, as), SORT);
    }
    for (int h = 0; h < 6; h++) {
      int holder = h;
      range("as, HOLDER " + h + ": BAD is named first", Edges::rich, (x, as) -> x.tells(holder, as), 0, 3, BAD);
    }
  }

  private static void tellsSorts() {
    says("0 any but a ROW: a LOAN's number, a BILL's day; 1 a LOAN: BALANCE; 2 a BILL: all that it asks");
    LoanBook x = full();
    x.hold(0, 0, -1);
    x.hold(1, 7, 0);
    long[] first = {0, x.sum(0, 1), SORT, x.sum(0, 2)}, last = {7, x.sum(7, 1), SORT, SORT}, bill = {31, SORT, x.sum(7, 3), SORT};
    for (int as = 0; as < 4; as++) {
      due("LOAN 0 as " + as, x.tells(0, as), first[as]);
      due("LOAN 7 as " + as, x.tells(5, as), last[as]);
      due("a BILL as " + as, x.tells(1, as), bill[as]);
    }
    refused("a LOAN is no BILL", Edges::rich, y -> y.tells(0, 2), SORT);
    refused("a BILL is no LOAN", Edges::rich, y -> y.tells(1, 1), SORT);
    x.pay(0, 10000000);
    due("BALANCE 0", x.tells(0, 1), 0);
  }

  private static void tellsLevel() {
    says("3 a LEVEL LOAN: LEVEL");
    for (int kind = 0; kind < 3; kind++) {
      LoanBook x = three(1000 * kind);
      x.hold(0, 0, -1);
      due("KIND " + kind, x.tells(0, 3), kind == 0 ? 34003 : SORT);
      x.pay(0, 100000);
      due("BALANCE 0, KIND " + kind, x.tells(0, 3), kind == 0 ? 34003 : SORT);
    }
    refused("EQUAL", Edges::rich, x -> x.tells(0, 3), SORT);
  }

  // ---- promise 33

  private static void countRefused() {
    says("6 bytes on THE TAPE, 7 HOLDERS that hold something. BAD.");
    range("what", Edges::rich, (x, what) -> x.count(what), 0, 7, BAD);
    range("what of a new object", LoanBook::new, (x, what) -> x.count(what), 0, 7, BAD);
  }

  private static void countAtFirstAndLast() {
    says("How many: 0 LOANS, 1 BILLS in ARREARS, 2 DAY, 3 GRACE, 4 LATE FEE");
    int[] want = {8, 8, 35, 10, 500, 0, 0, 1};
    for (int what = 0; what < 8; what++) due("eight LOANS: " + what, full().count(what), want[what]);
    LoanBook x = goTo(full(), LAST_DAY);
    due("all BILLS of eight LOANS", x.count(1), 3 + 4 + 5 + 6 + 7 + 8 + 9 + 10);
    due("the last DAY", x.count(2), LAST_DAY);
    for (int i = 0; i < 120; i++) { due("bytes", x.count(6), i); x.feed(0); }
    due("a full TAPE", x.count(6), 120);
    for (int h = 0; h < 6; h++) x.row(h, 0);
    due("all HOLDERS", x.count(7), 6);
  }

  private static void countFree() {
    says("5 LOANS with BALANCE 0 and no ARREARS");
    LoanBook x = three(0);
    x.pay(0, 99999);
    due("a cent of BALANCE", x.count(5), 0);
    x.pay(0, 1);
    due("BALANCE 0", x.count(5), 1);
    LoanBook y = three(0);
    y.days(91);
    due("BALANCE 0, but ARREARS", y.count(5), 0);
    y.pay(0, y.sum(0, 3) - 1);
    due("a cent in ARREARS", y.count(5), 0);
    y.pay(0, 1);
    due("no ARREARS", y.count(5), 1);
    LoanBook z = full();
    for (int i = 0; i < 8; i++) { due("so many", z.count(5), i); z.writeOff(i); }
    due("all eight", z.count(5), 8);
  }
}
