import java.util.Arrays;

/** A book of loans, as ../shared/DOC.md tells it. Words in capitals in the comments are that document's terms. */
public final class LoanBook {
    public static final int BAD = -1, NOT = -2, FULL = -3, STATE = -5;

    private static final int NOTHING_THERE = -11, OTHER_SORT = -12, NO_SUCH_PLACE = -13, SIZE_BELOW_0 = -14;
    private static final int FAULT_OF_FORM = -1000, LINE_REFUSED = -2000;

    private static final int LAST_DAY = 36524, MOST_DAYS = 4000;
    private static final int MOST_LOANS = 8, MOST_PERIODS = 60, MOST_RATE = 5000;
    private static final int MOST_GRACE = 90, MOST_LATE_FEE = 10000;
    private static final int MOST_BYTES = 120, MOST_NUMBERS = 6, MOST_DIGITS = 9;
    private static final int MOST_HOLDERS = 6, MOST_ITEMS = 60;
    private static final long MOST_LENT = 100000000L, MOST_PAID = 1000000000L, MOST_LEVEL = 200000000L;

    private static final int LEVEL = 0, EQUAL = 1, BULLET = 2;
    private static final int LOWER = 1;

    private final Book book = new Book();
    private final Book ahead = new Book();
    private final Book kept = new Book();
    private boolean isKept = false;
    private final Loan thought = new Loan();
    private final Plan plan = new Plan();
    private final Tape tape = new Tape();
    private final Holder[] holders = new Holder[MOST_HOLDERS];

    public LoanBook() {
        for (int i = 0; i < MOST_HOLDERS; i++) {
            holders[i] = new Holder();
        }
    }

    // ---- the calendar

    public int date(int day, int what) {
        if (!isDay(day)) {
            return BAD;
        }
        int month = Dates.monthOf(day);
        switch (what) {
            case 0:
                return 2000 + month / 12;
            case 1:
                return 1 + month % 12;
            case 2:
                return 1 + day - Dates.firstOf(month);
            case 3:
                return month / 12 % 4 == 0 ? 1 : 0;
            default:
                return BAD;
        }
    }

    public int dayOf(int year, int month, int day) {
        if (!isWithin(year, 2000, 2099) || !isWithin(month, 1, 12)) {
            return BAD;
        }
        int months = (year - 2000) * 12 + month - 1;
        return isWithin(day, 1, Dates.lengthOf(months)) ? Dates.firstOf(months) + day - 1 : BAD;
    }

    public long interest(long b, int rate, int count, int d, int e) {
        if (b < 0 || b > MOST_LENT || !isRate(rate) || !isWithin(count, 0, 3)) {
            return BAD;
        }
        if (!isDay(d) || !isDay(e) || e < d) {
            return BAD;
        }
        return Dates.cents(b * rate, count, Dates.partsBetween(count, d, e));
    }

    // ---- loans

    public int loan(long lent, int rate, int count, int kmn) {
        return book.lend(lent, rate, count, kmn / 1000, kmn / 100 % 10, kmn % 100);
    }

    public int days(int n) {
        if (!isWithin(n, 1, MOST_DAYS)) {
            return BAD;
        }
        return book.day + n > LAST_DAY ? STATE : book.passDays(n);
    }

    public long pay(int loan, long amount) {
        if (!book.has(loan) || !isAmount(amount)) {
            return BAD;
        }
        return book.loans[loan].receive(amount);
    }

    public long reset(int loan, int rate) {
        if (!book.has(loan) || !isRate(rate)) {
            return BAD;
        }
        Loan reset = book.loans[loan];
        reset.rate = rate;
        reset.findLevel();
        return reset.level;
    }

    public long writeOff(int loan) {
        if (!book.has(loan)) {
            return BAD;
        }
        Loan written = book.loans[loan];
        return written.isSettled() ? STATE : written.giveUp();
    }

    public int rule(int what, int v) {
        int was;
        if (what == 0 && isWithin(v, 0, MOST_GRACE)) {
            was = book.grace;
            book.grace = v;
        } else if (what == 1 && isWithin(v, 0, MOST_LATE_FEE)) {
            was = book.lateFee;
            book.lateFee = v;
        } else {
            was = BAD;
        }
        return was;
    }

    public int of(int loan, int what) {
        if (!book.has(loan)) {
            return BAD;
        }
        Loan asked = book.loans[loan];
        switch (what) {
            case 0:
                return asked.rate;
            case 1:
                return asked.dayCount;
            case 2:
                return asked.kind;
            case 3:
                return asked.periods;
            case 4:
                return asked.mode;
            case 5:
                return asked.ends[0];
            case 6:
                return asked.done;
            case 7:
                return asked.billsInArrears();
            case 8:
                return asked.daysLate(book.day);
            case 9:
                return asked.done < asked.periods ? asked.ends[asked.done + 1] : NOT;
            default:
                return BAD;
        }
    }

    public long sum(int loan, int what) {
        if (!book.has(loan)) {
            return BAD;
        }
        Loan asked = book.loans[loan];
        switch (what) {
            case 0:
                return asked.lent;
            case 1:
                return asked.balance;
            case 2:
                return asked.level;
            case 3:
                return asked.owed();
            case 4:
                return asked.feesGot;
            case 5:
                return asked.interestGot;
            case 6:
                return asked.principalGot;
            case 7:
                return asked.lost;
            case 8:
                plan.follow(asked);
                return plan.totalInterest();
            default:
                return BAD;
        }
    }

    public long bill(int loan, int i, int what) {
        if (!book.has(loan) || i < 0 || !isWithin(what, 0, 3)) {
            return BAD;
        }
        Loan asked = book.loans[loan];
        int period = asked.periodOfBill(i);
        if (period == 0) {
            return NOT;
        }
        switch (what) {
            case 0:
                return asked.ends[period];
            case 1:
                return asked.interestDue[period];
            case 2:
                return asked.principalDue[period];
            default:
                return asked.feeDue[period];
        }
    }

    // ---- in thought

    public long toCome(int loan, int i, int what) {
        if (!book.has(loan) || i < 0 || !isWithin(what, 0, 3)) {
            return BAD;
        }
        plan.follow(book.loans[loan]);
        int period = plan.periodOfBill(i);
        if (period == 0) {
            return NOT;
        }
        switch (what) {
            case 0:
                return book.loans[loan].ends[period];
            case 1:
                return plan.interest[period];
            case 2:
                return plan.principal[period];
            default:
                return plan.balance[period];
        }
    }

    public long coming(int loan, int what) {
        if (!book.has(loan)) {
            return BAD;
        }
        Loan asked = book.loans[loan];
        plan.follow(asked);
        int bills = plan.bills();
        switch (what) {
            case 0:
                return bills;
            case 1:
                return bills == 0 ? NOT : asked.ends[plan.periodOfBill(bills - 1)];
            case 2:
                return plan.greatestFlow();
            default:
                return BAD;
        }
    }

    public long value(int loan, long r) {
        if (!book.has(loan) || !Bits.isRateOfPeriod(r)) {
            return 0L;
        }
        plan.follow(book.loans[loan]);
        return Bits.ofDouble(plan.worth(Bits.toDouble(r)));
    }

    public long yieldOf(int loan, long price) {
        if (!book.has(loan) || price < 1) {
            return BAD;
        }
        plan.follow(book.loans[loan]);
        return Bits.ofDouble(plan.yieldBy((double) price));
    }

    public int near(int loan, long price) {
        if (!book.has(loan) || price < 1) {
            return BAD;
        }
        plan.follow(book.loans[loan]);
        return Bits.ofFloat((float) plan.yieldBy((double) price));
    }

    public long duration(int loan, long r) {
        if (!book.has(loan) || !Bits.isRateOfPeriod(r)) {
            return 0L;
        }
        plan.follow(book.loans[loan]);
        double rate = Bits.toDouble(r);
        double worth = plan.worth(rate);
        return worth > 0.0 ? Bits.ofDouble(plan.worthByNumber(rate) / worth) : 0L;
    }

    public int behind(int n) {
        if (n < 0) {
            return BAD;
        }
        int bits = 0;
        for (int i = 0; i < book.size; i++) {
            if (book.loans[i].daysLate(book.day) > n) {
                bits |= 1 << i;
            }
        }
        return bits;
    }

    public int settles(int loan) {
        if (!book.has(loan)) {
            return BAD;
        }
        Loan asked = book.loans[loan];
        return asked.done < asked.periods ? asked.ends[asked.periods] - book.day : 0;
    }

    public long would(int loan, long amount, int what) {
        if (!book.has(loan) || !isAmount(amount)) {
            return BAD;
        }
        Loan now = book.loans[loan];
        thought.copyFrom(now);
        long givenBack = thought.receive(amount);
        long prepaid = now.balance - thought.balance;
        switch (what) {
            case 0:
                return thought.feesGot - now.feesGot;
            case 1:
                return thought.interestGot - now.interestGot;
            case 2:
                return thought.principalGot - now.principalGot - prepaid;
            case 3:
                return prepaid;
            case 4:
                return givenBack;
            case 5:
                return thought.level;
            default:
                return BAD;
        }
    }

    public int sooner(int loan, long amount) {
        if (!book.has(loan) || !isAmount(amount)) {
            return BAD;
        }
        plan.follow(book.loans[loan]);
        int now = plan.lastWithPrincipal();
        thought.copyFrom(book.loans[loan]);
        thought.receive(amount);
        plan.follow(thought);
        return Math.max(0, now - plan.lastWithPrincipal());
    }

    public int judge(int holder, int loan) {
        if (!isHolder(holder) || !book.has(loan)) {
            return BAD;
        }
        Holder told = holders[holder];
        if (told.sort != Holder.ROW) {
            return told.sort == Holder.NOTHING ? NOTHING_THERE : OTHER_SORT;
        }
        plan.follow(book.loans[loan]);
        int bills = plan.bills();
        for (int i = 0; i < told.size; i++) {
            if (i >= bills || told.items[i] != plan.principal[plan.periodOfBill(i)]) {
                return i;
            }
        }
        return bills > told.size ? told.size : NOT;
    }

    // ---- texts, images, holders

    public int feed(int letter) {
        if (!isWithin(letter, 0, 255)) {
            return BAD;
        }
        if (tape.length >= MOST_BYTES) {
            return FULL;
        }
        tape.bytes[tape.length] = letter;
        tape.length++;
        return tape.length;
    }

    public int script() {
        int fault = tape.placeOfFault();
        if (fault != Tape.NO_FAULT) {
            tape.length = 0;
            return FAULT_OF_FORM - fault;
        }
        ahead.copyFrom(book);
        tape.place = 0;
        int lines = 0;
        boolean isRefused = false;
        while (lines < MOST_BYTES && !isRefused && tape.readLine()) {
            isRefused = doLine() < 0;
            if (!isRefused) {
                lines++;
                tape.place++;
            }
        }
        tape.length = 0;
        if (isRefused) {
            book.copyFrom(ahead);
            return LINE_REFUSED - lines;
        }
        return lines;
    }

    public int image() {
        kept.copyFrom(book);
        isKept = true;
        return book.day;
    }

    public int back() {
        if (!isKept) {
            return STATE;
        }
        book.copyFrom(kept);
        for (int i = 0; i < MOST_HOLDERS; i++) {
            if (holders[i].sort == Holder.LOAN && !book.has(holders[i].number)) {
                holders[i].sort = Holder.NOTHING;
            }
        }
        return book.day;
    }

    public int hold(int holder, int loan, int bill) {
        if (!isHolder(holder) || !book.has(loan) || bill < -1) {
            return BAD;
        }
        if (bill == -1) {
            holders[holder].takeLoan(loan);
            return 1;
        }
        Loan owing = book.loans[loan];
        int period = owing.periodOfBill(bill);
        if (period == 0) {
            return NOT;
        }
        holders[holder].takeBill(owing.ends[period], owing.asks(period));
        return 1;
    }

    public int row(int holder, int n) {
        if (!isHolder(holder) || n > MOST_ITEMS) {
            return BAD;
        }
        if (n < -1) {
            return SIZE_BELOW_0;
        }
        if (n == -1) {
            holders[holder].sort = Holder.NOTHING;
        } else {
            holders[holder].takeRow(n);
        }
        return 1;
    }

    public int put(int holder, int i, long v) {
        if (!isHolder(holder)) {
            return BAD;
        }
        Holder into = holders[holder];
        if (into.sort != Holder.ROW) {
            return into.sort == Holder.NOTHING ? NOTHING_THERE : OTHER_SORT;
        }
        if (i < 0 || i >= into.size) {
            return NO_SUCH_PLACE;
        }
        into.items[i] = v;
        return 1;
    }

    public long tells(int holder, int as) {
        if (!isHolder(holder) || !isWithin(as, 0, 3)) {
            return BAD;
        }
        Holder asked = holders[holder];
        switch (asked.sort) {
            case Holder.LOAN:
                return loanTells(asked.number, as);
            case Holder.BILL:
                return billTells(asked, as);
            case Holder.ROW:
                return OTHER_SORT;
            default:
                return NOTHING_THERE;
        }
    }

    public int count(int what) {
        switch (what) {
            case 0:
                return book.size;
            case 1:
                return book.billsInArrears();
            case 2:
                return book.day;
            case 3:
                return book.grace;
            case 4:
                return book.lateFee;
            case 5:
                return book.settledLoans();
            case 6:
                return tape.length;
            case 7:
                return fullHolders();
            default:
                return BAD;
        }
    }

    // ---- what the calls share

    private static boolean isWithin(int number, int least, int most) {
        return number >= least && number <= most;
    }

    private static boolean isDay(int day) {
        return isWithin(day, 0, LAST_DAY);
    }

    private static boolean isRate(int rate) {
        return isWithin(rate, 0, MOST_RATE);
    }

    private static boolean isAmount(long amount) {
        return amount >= 1 && amount <= MOST_PAID;
    }

    private static boolean isHolder(int holder) {
        return isWithin(holder, 0, MOST_HOLDERS - 1);
    }

    private int fullHolders() {
        int full = 0;
        for (int i = 0; i < MOST_HOLDERS; i++) {
            if (holders[i].sort != Holder.NOTHING) {
                full++;
            }
        }
        return full;
    }

    private long loanTells(int number, int as) {
        if (!book.has(number)) {
            return NOTHING_THERE;
        }
        Loan held = book.loans[number];
        switch (as) {
            case 0:
                return number;
            case 1:
                return held.balance;
            case 3:
                return held.kind == LEVEL ? held.level : OTHER_SORT;
            default:
                return OTHER_SORT;
        }
    }

    private static long billTells(Holder held, int as) {
        switch (as) {
            case 0:
                return held.number;
            case 2:
                return held.asks;
            default:
                return OTHER_SORT;
        }
    }

    /** Below 0: the LINE that was read is refused (no call that a LINE can do answers so otherwise). */
    private long doLine() {
        int[] n = tape.numbers;
        switch (tape.letter) {
            case 'l':
                return book.lend(n[0], n[1], n[2], n[3], n[5], n[4]);
            case 'p':
                return pay(n[0], n[1]);
            case 'r':
                return reset(n[0], n[1]);
            case 'd':
                return days(n[0]);
            case 'w':
                return writeOff(n[0]);
            case 'g':
                return rule(0, n[0]);
            case 'f':
                return rule(1, n[0]);
            default:
                return BAD;
        }
    }

    /** The calendar, in days and in months behind January 1, 2000; up to 2099 each fourth year is a leap year. */
    private static final class Dates {
        private static final int[] DAYS_AHEAD = {0, 31, 59, 90, 120, 151, 181, 212, 243, 273, 304, 334};
        private static final int FOUR_YEARS = 1461, LEAP_YEAR = 366, YEAR = 365;

        static int firstOf(int month) {
            int year = month / 12;
            int leapDays = (year + 3) / 4;
            if (year % 4 == 0 && month % 12 >= 2) {
                leapDays++;
            }
            return year * YEAR + leapDays + DAYS_AHEAD[Math.floorMod(month, 12)];
        }

        static int lengthOf(int month) {
            return firstOf(month + 1) - firstOf(month);
        }

        static int monthOf(int day) {
            int year = day / FOUR_YEARS * 4;
            int inYear = day % FOUR_YEARS;
            int leapDay = 1;
            if (inYear >= LEAP_YEAR) {
                year += 1 + (inYear - LEAP_YEAR) / YEAR;
                inYear = (inYear - LEAP_YEAR) % YEAR;
                leapDay = 0;
            }
            for (int i = 11; i > 0; i--) {
                if (inYear >= DAYS_AHEAD[i] + (i >= 2 ? leapDay : 0)) {
                    return year * 12 + i;
                }
            }
            return year * 12;
        }

        /** FRACTION from d to e, in parts of a year that are whole numbers, so that no rounding comes in. */
        static long partsBetween(int count, int d, int e) {
            if (count == 0) {
                return thirties(e) - thirties(d);
            }
            if (count < 3) {
                return e - d;
            }
            long inLeapYears = leapYearDays(e) - leapYearDays(d);
            return inLeapYears * YEAR + (e - d - inLeapYears) * LEAP_YEAR;
        }

        /** Half a divisor is exact, as 10000 is even; adding it before cutting rounds half a cent up. */
        static long cents(long balanceByRate, int count, long parts) {
            long partsOfYear = count < 2 ? 360L : count == 2 ? YEAR : (long) LEAP_YEAR * YEAR;
            long divisor = partsOfYear * 10000L;
            return (balanceByRate * parts + divisor / 2) / divisor;
        }

        private static int thirties(int day) {
            int month = monthOf(day);
            return month * 30 + Math.min(30, 1 + day - firstOf(month));
        }

        private static int leapYearDays(int day) {
            return day / FOUR_YEARS * LEAP_YEAR + Math.min(LEAP_YEAR, day % FOUR_YEARS);
        }
    }

    /**
     * A LOAN. A PERIOD has one BILL at most, so BILLS stand at the numbers of their PERIODS, and their days are the
     * ENDS; one that asks for nothing is not there (it didn't come, or was paid).
     */
    private static final class Loan {
        long lent, balance, level, feesGot, interestGot, principalGot, lost;
        int rate, dayCount, kind, mode, periods, done;
        final int[] ends = new int[MOST_PERIODS + 1];
        final long[] parts = new long[MOST_PERIODS + 1];
        final long[] feeDue = new long[MOST_PERIODS + 1];
        final long[] interestDue = new long[MOST_PERIODS + 1];
        final long[] principalDue = new long[MOST_PERIODS + 1];
        final boolean[] hadFee = new boolean[MOST_PERIODS + 1];

        void copyFrom(Loan other) {
            lent = other.lent;
            balance = other.balance;
            level = other.level;
            feesGot = other.feesGot;
            interestGot = other.interestGot;
            principalGot = other.principalGot;
            lost = other.lost;
            rate = other.rate;
            dayCount = other.dayCount;
            kind = other.kind;
            mode = other.mode;
            periods = other.periods;
            done = other.done;
            System.arraycopy(other.ends, 0, ends, 0, MOST_PERIODS + 1);
            System.arraycopy(other.parts, 0, parts, 0, MOST_PERIODS + 1);
            System.arraycopy(other.feeDue, 0, feeDue, 0, MOST_PERIODS + 1);
            System.arraycopy(other.interestDue, 0, interestDue, 0, MOST_PERIODS + 1);
            System.arraycopy(other.principalDue, 0, principalDue, 0, MOST_PERIODS + 1);
            System.arraycopy(other.hadFee, 0, hadFee, 0, MOST_PERIODS + 1);
        }

        /** The object may have been another LOAN, which back() or a refused LINE took away: nothing of it may stay. */
        void clear() {
            level = 0;
            feesGot = 0;
            interestGot = 0;
            principalGot = 0;
            lost = 0;
            done = 0;
            clearArrears();
        }

        void clearArrears() {
            for (int k = 0; k <= MOST_PERIODS; k++) {
                feeDue[k] = 0;
                interestDue[k] = 0;
                principalDue[k] = 0;
                hadFee[k] = false;
            }
        }

        void layPeriods(int start) {
            int month = Dates.monthOf(start);
            int place = start - Dates.firstOf(month);
            ends[0] = start;
            for (int k = 1; k <= periods; k++) {
                ends[k] = Dates.firstOf(month + k) + Math.min(place, Dates.lengthOf(month + k) - 1);
                parts[k] = Dates.partsBetween(dayCount, ends[k - 1], ends[k]);
            }
        }

        long interestOf(int k, long ofBalance) {
            return Dates.cents(ofBalance * rate, dayCount, parts[k]);
        }

        long principalOf(int k, long ofBalance, long itsInterest) {
            int left = periods - k + 1;
            if (left <= 1) {
                return ofBalance;
            }
            switch (kind) {
                case LEVEL:
                    return repaidBy(level, ofBalance, itsInterest);
                case EQUAL:
                    return ofBalance / left;
                default:
                    return 0;
            }
        }

        static long repaidBy(long amount, long ofBalance, long itsInterest) {
            return Math.min(ofBalance, Math.max(0, amount - itsInterest));
        }

        /** LEVEL anew, if there is one. A higher amount never leaves a higher balance: halving finds the least. */
        void findLevel() {
            if (kind != LEVEL || balance == 0) {
                return;
            }
            long low = 0;
            long high = MOST_LEVEL;
            for (int i = 0; i < 28 && low < high; i++) {
                long mid = (low + high) / 2;
                if (isRepaidBy(mid)) {
                    high = mid;
                } else {
                    low = mid + 1;
                }
            }
            level = low;
        }

        private boolean isRepaidBy(long amount) {
            long left = balance;
            for (int k = done + 1; k <= periods && left > 0; k++) {
                left -= repaidBy(amount, left, interestOf(k, left));
            }
            return left == 0;
        }

        /** The ENDS up to a day: how many BILLS came. */
        int endPeriods(int last) {
            int bills = 0;
            for (int k = done + 1; k <= periods && ends[k] <= last; k++) {
                interestDue[k] = interestOf(k, balance);
                principalDue[k] = principalOf(k, balance, interestDue[k]);
                balance -= principalDue[k];
                done = k;
                if (asks(k) > 0) {
                    bills++;
                }
            }
            return bills;
        }

        /** LATE FEES on the days from first to last. */
        void chargeLate(int first, int last, int grace, int lateFee) {
            for (int k = 1; k <= done; k++) {
                int feeDay = ends[k] + grace;
                if (asks(k) > 0 && !hadFee[k] && feeDay >= first && feeDay <= last) {
                    feeDue[k] = lateFee;
                    hadFee[k] = true;
                }
            }
        }

        /** PAID: what is given back. */
        long receive(long amount) {
            long left = amount;
            for (int k = 1; k <= done && left > 0; k++) {
                left = payBill(k, left);
            }
            long prepaid = Math.min(left, balance);
            balance -= prepaid;
            principalGot += prepaid;
            if (prepaid > 0 && mode == LOWER) {
                findLevel();
            }
            return left - prepaid;
        }

        private long payBill(int k, long amount) {
            long toFee = Math.min(amount, feeDue[k]);
            long toInterest = Math.min(amount - toFee, interestDue[k]);
            long toPrincipal = Math.min(amount - toFee - toInterest, principalDue[k]);
            feeDue[k] -= toFee;
            interestDue[k] -= toInterest;
            principalDue[k] -= toPrincipal;
            feesGot += toFee;
            interestGot += toInterest;
            principalGot += toPrincipal;
            return amount - toFee - toInterest - toPrincipal;
        }

        /** WRITTEN OFF: PRINCIPAL that is lost. */
        long giveUp() {
            long gone = balance;
            for (int k = 1; k <= done; k++) {
                gone += principalDue[k];
            }
            balance = 0;
            clearArrears();
            lost += gone;
            return gone;
        }

        long asks(int k) {
            return feeDue[k] + interestDue[k] + principalDue[k];
        }

        long owed() {
            long all = 0;
            for (int k = 1; k <= done; k++) {
                all += asks(k);
            }
            return all;
        }

        boolean isSettled() {
            return balance == 0 && owed() == 0;
        }

        int billsInArrears() {
            int bills = 0;
            for (int k = 1; k <= done; k++) {
                if (asks(k) > 0) {
                    bills++;
                }
            }
            return bills;
        }

        /** The PERIOD of the i-th BILL in ARREARS; 0: there are not as many. */
        int periodOfBill(int i) {
            int ahead = 0;
            for (int k = 1; k <= done; k++) {
                if (asks(k) > 0) {
                    if (ahead == i) {
                        return k;
                    }
                    ahead++;
                }
            }
            return 0;
        }

        int daysLate(int day) {
            int oldest = periodOfBill(0);
            return oldest == 0 ? 0 : day - ends[oldest];
        }
    }

    /** All that AN IMAGE keeps: DAY, the rules, the LOANS. */
    private static final class Book {
        int day = 0, grace = 10, lateFee = 500, size = 0;
        final Loan[] loans = new Loan[MOST_LOANS];

        Book() {
            for (int i = 0; i < MOST_LOANS; i++) {
                loans[i] = new Loan();
            }
        }

        void copyFrom(Book other) {
            day = other.day;
            grace = other.grace;
            lateFee = other.lateFee;
            size = other.size;
            for (int i = 0; i < size; i++) {
                loans[i].copyFrom(other.loans[i]);
            }
        }

        boolean has(int loan) {
            return loan >= 0 && loan < size;
        }

        int lend(long lent, int rate, int dayCount, int kind, int mode, int periods) {
            if (lent < 1 || lent > MOST_LENT || !isRate(rate) || !isWithin(dayCount, 0, 3)) {
                return BAD;
            }
            if (!isWithin(kind, LEVEL, BULLET) || !isWithin(mode, 0, LOWER) || !isWithin(periods, 1, MOST_PERIODS)) {
                return BAD;
            }
            if (Dates.firstOf(Dates.monthOf(day) + periods) > LAST_DAY) {
                return STATE;
            }
            if (size >= MOST_LOANS) {
                return FULL;
            }
            Loan loan = loans[size];
            loan.clear();
            loan.lent = lent;
            loan.balance = lent;
            loan.rate = rate;
            loan.dayCount = dayCount;
            loan.kind = kind;
            loan.mode = mode;
            loan.periods = periods;
            loan.layPeriods(day);
            loan.findLevel();
            size++;
            return size - 1;
        }

        /**
         * No LOAN touches another, and no FEE an END, so each LOAN goes through all the days by itself: what comes
         * is the same as if the days went one by one.
         */
        int passDays(int n) {
            int bills = 0;
            for (int i = 0; i < size; i++) {
                bills += loans[i].endPeriods(day + n);
                loans[i].chargeLate(day + 1, day + n, grace, lateFee);
            }
            day += n;
            return bills;
        }

        int billsInArrears() {
            int bills = 0;
            for (int i = 0; i < size; i++) {
                bills += loans[i].billsInArrears();
            }
            return bills;
        }

        int settledLoans() {
            int settled = 0;
            for (int i = 0; i < size; i++) {
                if (loans[i].isSettled()) {
                    settled++;
                }
            }
            return settled;
        }
    }

    /** What is TO COME of a LOAN, at the numbers of its PERIODS. */
    private static final class Plan {
        int done = 0, periods = 0;
        final long[] interest = new long[MOST_PERIODS + 1];
        final long[] principal = new long[MOST_PERIODS + 1];
        final long[] balance = new long[MOST_PERIODS + 1];

        void follow(Loan loan) {
            done = loan.done;
            periods = loan.periods;
            long left = loan.balance;
            for (int k = done + 1; k <= periods; k++) {
                interest[k] = loan.interestOf(k, left);
                principal[k] = loan.principalOf(k, left, interest[k]);
                left -= principal[k];
                balance[k] = left;
            }
        }

        long flow(int k) {
            return interest[k] + principal[k];
        }

        int bills() {
            int bills = 0;
            for (int k = done + 1; k <= periods; k++) {
                if (flow(k) > 0) {
                    bills++;
                }
            }
            return bills;
        }

        /** The PERIOD of the i-th BILL TO COME; 0: there are not as many. */
        int periodOfBill(int i) {
            int ahead = 0;
            for (int k = done + 1; k <= periods; k++) {
                if (flow(k) > 0) {
                    if (ahead == i) {
                        return k;
                    }
                    ahead++;
                }
            }
            return 0;
        }

        long totalInterest() {
            long all = 0;
            for (int k = done + 1; k <= periods; k++) {
                all += interest[k];
            }
            return all;
        }

        long greatestFlow() {
            long greatest = 0;
            for (int k = done + 1; k <= periods; k++) {
                greatest = Math.max(greatest, flow(k));
            }
            return greatest;
        }

        /** The number (from 1, of the PERIODS left) of the last FLOW with PRINCIPAL; 0: none. */
        int lastWithPrincipal() {
            int last = 0;
            for (int k = done + 1; k <= periods; k++) {
                if (principal[k] > 0) {
                    last = k - done;
                }
            }
            return last;
        }

        double worth(double r) {
            double v = 0.0;
            for (int k = periods; k > done; k--) {
                v = (v + (double) flow(k)) / (1.0 + r);
            }
            return v;
        }

        double worthByNumber(double r) {
            double v = 0.0;
            for (int k = periods; k > done; k--) {
                v = (v + (double) (flow(k) * (k - done))) / (1.0 + r);
            }
            return v;
        }

        double yieldBy(double price) {
            double low = 0.0;
            double high = 1.0;
            for (int i = 0; i < 50; i++) {
                double mid = (low + high) / 2.0;
                if (worth(mid) > price) {
                    low = mid;
                } else {
                    high = mid;
                }
            }
            return low;
        }
    }

    /** Doubles to bits and back by arithmetic alone; each step is by a power of 2 and so exact. */
    private static final class Bits {
        private static final long TEN = 0x4024000000000000L;
        private static final long FRACTION = 0x000FFFFFFFFFFFFFL, HIDDEN_ONE = 0x0010000000000000L;
        private static final int MOST_STEPS = 1100;

        /** 0.0 to 10.0; bits from 0 on rise with their doubles, and what is no number lies above them all. */
        static boolean isRateOfPeriod(long bits) {
            return bits >= 0 && bits <= TEN || bits == Long.MIN_VALUE;
        }

        /** Only for bits that isRateOfPeriod takes. */
        static double toDouble(long bits) {
            int exponent = (int) (bits >>> 52) & 0x7FF;
            long fraction = bits & FRACTION;
            double d = exponent == 0 ? (double) fraction : (double) (fraction + HIDDEN_ONE);
            int power = Math.max(exponent, 1) - 1075;
            for (int i = 0; i < MOST_STEPS && power < 0 && d > 0.0; i++) {
                d = d / 2.0;
                power++;
            }
            return d;
        }

        /** For 0.0 and for what is so far from it that its exponent is an ordinary one. */
        static long ofDouble(double d) {
            if (!(d > 0.0)) {
                return 0L;
            }
            double scaled = d;
            int exponent = 1023;
            for (int i = 0; i < MOST_STEPS && scaled >= 2.0; i++) {
                scaled = scaled / 2.0;
                exponent++;
            }
            for (int i = 0; i < MOST_STEPS && scaled < 1.0; i++) {
                scaled = scaled * 2.0;
                exponent--;
            }
            return ((long) exponent << 52) + (long) ((scaled - 1.0) * 4503599627370496.0);
        }

        static int ofFloat(float f) {
            long bits = ofDouble((double) f);
            if (bits == 0L) {
                return 0;
            }
            int exponent = (int) (bits >>> 52) - 1023 + 127;
            return (exponent << 23) + (int) ((bits & FRACTION) >>> 29);
        }
    }

    /** THE TAPE, and the reading of it LINE by LINE. */
    private static final class Tape {
        static final int NO_FAULT = -1;
        private static final int END = -1;

        int length = 0, place = 0, letter = END;
        final int[] bytes = new int[MOST_BYTES];
        final int[] numbers = new int[MOST_NUMBERS];

        int placeOfFault() {
            place = 0;
            for (int line = 0; line < MOST_BYTES; line++) {
                if (!readLine()) {
                    return place;
                }
                if (place >= length) {
                    return NO_FAULT;
                }
                if (here() != ';') {
                    return place;
                }
                place++;
            }
            return place;
        }

        /** False: no LINE goes on with the byte at the place where it stands then. */
        boolean readLine() {
            letter = here();
            int wanted = numbersOf(letter);
            if (wanted == 0) {
                return false;
            }
            place++;
            for (int i = 0; i < wanted; i++) {
                if (!readNumber(i)) {
                    return false;
                }
            }
            return true;
        }

        private boolean readNumber(int i) {
            if (here() != ' ') {
                return false;
            }
            place++;
            int number = 0;
            int digits = 0;
            while (digits < MOST_DIGITS && here() >= '0' && here() <= '9') {
                number = number * 10 + here() - '0';
                digits++;
                place++;
            }
            numbers[i] = number;
            return digits > 0;
        }

        private int here() {
            return place >= 0 && place < length ? bytes[place] : END;
        }

        private static int numbersOf(int letter) {
            switch (letter) {
                case 'l':
                    return MOST_NUMBERS;
                case 'p':
                case 'r':
                    return 2;
                case 'd':
                case 'w':
                case 'g':
                case 'f':
                    return 1;
                default:
                    return 0;
            }
        }
    }

    /** A HOLDER. A LOAN is held by its number; of a BILL its day and what it asks are kept as they are then. */
    private static final class Holder {
        static final int NOTHING = 0, LOAN = 1, BILL = 2, ROW = 3;

        int sort = NOTHING, number = 0, size = 0;
        long asks = 0;
        final long[] items = new long[MOST_ITEMS];

        void takeLoan(int loan) {
            sort = LOAN;
            number = loan;
        }

        void takeBill(int day, long asked) {
            sort = BILL;
            number = day;
            asks = asked;
        }

        void takeRow(int n) {
            sort = ROW;
            size = n;
            Arrays.fill(items, 0L);
        }
    }
}
