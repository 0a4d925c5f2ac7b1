import java.util.Arrays;
import java.util.NoSuchElementException;

/**
 * A town in which a debt is paid by others, who have less than who owes it, by the law that holds.
 * What each call answers is said in the project's document, promise by promise.
 */
public final class PaidByPoorer {
    public static final int NONE = -1;

    private static final int GREATEST = 0x7FFFFFFF;
    private static final int LEAST = -GREATEST - 1;
    private static final int NOT = -2;
    private static final int AMISS = -3;
    private static final int MOST_PEOPLE = 8;
    private static final int MOST_DEBTS = 10;
    private static final int MOST_LENT = 6;
    private static final int MOST_COIN = 999;
    private static final int MOST_DAYS = 60;
    private static final int SORTS = 4;

    private static final int SORT = 0;
    private static final int BY = 1;
    private static final int AT_NOON = 2;
    private static final int LATE = 3;

    private static final int OPEN = 0;
    private static final int PAID = 1;
    private static final int LAPSED = 2;

    private final Text text;
    private final Told told;
    private final Town now;
    private final Town trial;
    private final Town keptFirst;
    private final Town keptSecond;
    private final TownReader townReader;
    private final Rule rule;
    private final RuleReader ruleReader;
    private final Gifts gifts;
    private final States states;
    private final Parts parts;
    private final Days days;
    private final int[] undoable;
    private int undoables;
    private boolean isFirstKept;
    private boolean isSecondKept;

    public PaidByPoorer() {
        text = new Text();
        told = new Told();
        now = new Town();
        trial = new Town();
        keptFirst = new Town();
        keptSecond = new Town();
        townReader = new TownReader();
        rule = new Rule();
        ruleReader = new RuleReader();
        gifts = new Gifts();
        states = new States();
        parts = new Parts();
        days = new Days();
        undoable = new int[MOST_DEBTS];
    }

    // ---- the town

    public int sign(int v) {
        return text.addFour(v) ? text.length() : NONE;
    }

    public boolean end(int n) {
        return text.cut(n);
    }

    public int town() {
        int lines = townReader.read(text, now);
        text.clear();
        if (lines > 0) {
            forgetPayments();
        }
        return lines;
    }

    public int rule() {
        int answer = ruleReader.read(text);
        text.clear();
        if (answer == 0) {
            rule.take(ruleReader);
        }
        return answer;
    }

    public int of(int person, int what) throws NoSuchElementException {
        if (!now.isPerson(person)) {
            throw new NoSuchElementException();
        }
        switch (what) {
            case 0:
                return now.coin[person];
            case 1:
                return now.asks[person];
            case 2:
                return now.kind[person];
            case 3:
                return now.hidden[person];
            case 4:
                now.makeList();
                return now.list[person];
            case 5:
                return now.openOwedBy(person);
            case 6:
                return now.openOwedTo(person);
            case 7:
                return now.favoursOwedBy(person);
            case 8:
                return now.favoursOwedTo(person);
            default:
                throw new NoSuchElementException();
        }
    }

    public int debt(int debt, int what) throws NoSuchElementException {
        if (!now.isDebt(debt)) {
            throw new NoSuchElementException();
        }
        switch (what) {
            case 0:
                return now.owes[debt];
            case 1:
                return now.gets[debt];
            case 2:
                return now.sums[debt];
            case 3:
                return now.dues[debt];
            case 4:
                return now.stand[debt];
            case 5:
                return now.payer[debt];
            default:
                throw new NoSuchElementException();
        }
    }

    public int law(int what, int v) {
        if (what < SORT || what > LATE || v < 0 || v > greatestLaw(what)) {
            return NONE;
        }
        int was = now.laws[what];
        now.laws[what] = v;
        return was;
    }

    private static int greatestLaw(int what) {
        if (what == SORT) {
            return SORTS - 1;
        }
        return what == AT_NOON ? 1 : 99;
    }

    public int sheet(int kind, int n, int f, int step) {
        if (kind < 0 || kind > 3 || n > MOST_PEOPLE) {
            return NONE;
        }
        boolean isMissing = kind == 3;
        if (n < 0 && !isMissing) {
            return NOT;
        }
        int entries = isMissing ? 0 : n;
        int sum = 0;
        for (int i = 0; i < now.people; i++) {
            now.coin[i] = i < entries ? entry(kind, f + i * step) : 0;
            now.hidden[i] = 0;
            sum += now.coin[i];
        }
        forgetPayments();
        return isMissing ? AMISS : sum;
    }

    private static int entry(int kind, int v) {
        int cut = v;
        if (kind == 0) {
            cut = (byte) v;
        } else if (kind == 1) {
            cut = (short) v;
        }
        return Math.max(0, Math.min(MOST_COIN, cut));
    }

    public int noon() {
        forgetPayments();
        return now.countList();
    }

    public int hide(int person, int v) {
        if (!now.isPerson(person) || v < 0 || v > now.coin[person]) {
            return NONE;
        }
        int was = now.hidden[person];
        now.hidden[person] = v;
        forgetPayments();
        return was;
    }

    public int search(int person, int c) {
        if (!now.isPerson(person) || c < 0 || c > 10) {
            return NONE;
        }
        forgetPayments();
        if (now.draw(10) >= c) {
            return 0;
        }
        int found = now.hidden[person];
        now.coin[person] -= found;
        now.hidden[person] = 0;
        return found;
    }

    // ---- payments

    public int below(int person) {
        if (!now.isPerson(person)) {
            return NONE;
        }
        now.makeList();
        return now.belowBits(person);
    }

    public int may(int debt) {
        if (!now.isDebt(debt)) {
            return NONE;
        }
        now.makeList();
        int payers = now.payers(debt);
        told.clear();
        if (payers != 0) {
            tellCheapest(payers, debt);
        }
        return payers;
    }

    private void tellCheapest(int payers, int debt) {
        int least = GREATEST;
        int first = 0;
        for (int i = 0; i < now.people; i++) {
            if ((payers & 1 << i) != 0 && now.price(i, debt) < least) {
                least = now.price(i, debt);
                first = i;
            }
        }
        told.tell(least, first);
    }

    public int willing(int debt) {
        if (!now.isDebt(debt)) {
            return NONE;
        }
        int person = rule.chosen(now, debt);
        if (person < 0) {
            return NOT;
        }
        told.tell(rule.worth(now, person, debt));
        return person;
    }

    public int pay(int person, int debt) {
        if (!now.isPerson(person) || !now.isDebt(debt)) {
            return NONE;
        }
        if (!now.canPay(person, debt)) {
            return NOT;
        }
        if (undoables < MOST_DEBTS) {
            undoable[undoables] = debt;
            undoables++;
        }
        return now.makePayment(person, debt);
    }

    public int undo() {
        if (undoables < 1) {
            return NONE;
        }
        undoables--;
        now.unmakePayment(undoable[undoables]);
        return undoables;
    }

    private void forgetPayments() {
        undoables = 0;
    }

    public int judge(int n, int told) {
        if (n < 0 || n > 4) {
            return NONE;
        }
        trial.copyFrom(now);
        int prices = 0;
        int sums = 0;
        int made = 0;
        while (made < n) {
            int payment = told >>> 8 * made & 255;
            int debt = payment >>> 4;
            int person = payment & 15;
            if (!trial.canPay(person, debt)) {
                break;
            }
            prices += trial.makePayment(person, debt);
            sums += trial.sums[debt];
            made++;
        }
        this.told.tell(prices, sums);
        return made == n ? NOT : made;
    }

    public int favour(int from, int to) {
        if (!now.isPerson(from) || !now.isPerson(to) || from == to) {
            return NONE;
        }
        return now.favours[from * MOST_PEOPLE + to];
    }

    public int nets() {
        int less = 0;
        for (int i = 0; i < now.people; i++) {
            for (int k = i + 1; k < now.people; k++) {
                less += now.setOff(i * MOST_PEOPLE + k, k * MOST_PEOPLE + i);
            }
        }
        forgetPayments();
        return less;
    }

    public boolean give(int from, int to, int coin) {
        if (!now.canGive(from, to, coin)) {
            return false;
        }
        now.shift(from, to, coin);
        forgetPayments();
        return true;
    }

    public int lend(int from, int to, int coin) {
        if (!now.canGive(from, to, coin) || now.lentCount >= MOST_LENT) {
            return NONE;
        }
        now.noteLent(from, to, coin);
        now.shift(from, to, coin);
        forgetPayments();
        return now.lentCount;
    }

    public int back() {
        if (now.lentCount < 1) {
            return NONE;
        }
        if (!now.giveLastBack()) {
            return NOT;
        }
        forgetPayments();
        return now.lentCount;
    }

    public int gift(int debt) {
        if (!now.isOpen(debt)) {
            return NONE;
        }
        now.makeList();
        if (now.payers(debt) != 0) {
            return 0;
        }
        int coin = gifts.leastGift(now, debt);
        if (coin == 0) {
            return NOT;
        }
        told.tell(gifts.who, gifts.payers);
        return coin;
    }

    public int poorer(int person, int debt) {
        if (!now.isPerson(person) || !now.isOpen(debt)) {
            return NONE;
        }
        if (now.canPay(person, debt)) {
            return 0;
        }
        int coin = gifts.leastLoss(now, person, debt);
        if (coin == 0) {
            return NOT;
        }
        told.tell(gifts.who);
        return coin;
    }

    // ---- all rows of payments

    private static boolean isDay(int day) {
        return day >= 0 && day <= 99;
    }

    private boolean visit(int day) {
        return states.visit(now, now.laws[SORT], day);
    }

    public int most(int day) {
        if (!isDay(day)) {
            return NONE;
        }
        if (!visit(day)) {
            return AMISS;
        }
        told.tell(states.greatestSum(), states.size);
        return states.mostPaid();
    }

    public int all(int day) {
        if (!isDay(day)) {
            return NONE;
        }
        if (!visit(day)) {
            return AMISS;
        }
        int best = states.cheapestEnd();
        if (best < 0) {
            return NOT;
        }
        tellPayments(best);
        return states.prices[best];
    }

    private void tellPayments(int state) {
        int length = Integer.bitCount(states.paid[state]);
        told.clear();
        for (int i = 0; i < length; i++) {
            told.add(states.payment(state, length - 1 - i));
        }
    }

    public int never(int day) {
        if (!isDay(day)) {
            return NONE;
        }
        if (!visit(day)) {
            return AMISS;
        }
        return states.these & ~states.payable;
    }

    public long ways(int day) {
        if (!isDay(day)) {
            return NONE;
        }
        if (!visit(day)) {
            return AMISS;
        }
        long ways = states.fullWays();
        if (ways > 0) {
            told.tell(now.everybody() & ~states.allPayers());
        }
        return ways;
    }

    public int ahead(int debt, int day) {
        if (!now.isDebt(debt) || !isDay(day)) {
            return NONE;
        }
        if (!visit(day)) {
            return AMISS;
        }
        if ((states.payable & 1 << debt) == 0) {
            return NOT;
        }
        return states.before[debt];
    }

    public int fewest(int day) {
        if (!isDay(day)) {
            return NONE;
        }
        if (!visit(day)) {
            return AMISS;
        }
        int set = states.fewestPayers();
        if (set < 0) {
            return NOT;
        }
        told.tell(set);
        return Integer.bitCount(set);
    }

    public int sorts(int day) {
        if (!isDay(day)) {
            return NONE;
        }
        // four bits for each sort, as the ROW stays if a later one has too many states
        int mosts = 0;
        int first = 0;
        int greatest = -1;
        for (int sort = 0; sort < SORTS; sort++) {
            if (!states.visit(now, sort, day)) {
                return AMISS;
            }
            int most = states.mostPaid();
            mosts |= most << 4 * sort;
            if (most > greatest) {
                greatest = most;
                first = sort;
            }
        }
        told.clear();
        for (int sort = 0; sort < SORTS; sort++) {
            told.add(mosts >>> 4 * sort & 15);
        }
        return first;
    }

    // ---- at noon, in parts

    public int flow(int day) {
        if (!isDay(day)) {
            return NONE;
        }
        parts.look(now, now.laws[SORT], day);
        told.tell(parts.tooGreat());
        return parts.greatestFlow();
    }

    public int proof(int day) {
        if (!isDay(day)) {
            return NONE;
        }
        parts.look(now, now.laws[SORT], day);
        int set = parts.leastBar();
        told.tell(parts.sumsBehind(set), parts.debtsBehind(set));
        return set;
    }

    public int gap(int sort, int day) {
        if (sort < 0 || sort >= SORTS || !isDay(day)) {
            return NONE;
        }
        parts.look(now, now.laws[SORT], day);
        int flowNow = parts.greatestFlow();
        parts.look(now, sort, day);
        return parts.greatestFlow() - flowNow;
    }

    // ---- days

    public int lowest() {
        if (now.people == 0) {
            return NOT;
        }
        now.makeList();
        int first = 0;
        int bits = 0;
        for (int i = 0; i < now.people; i++) {
            if (now.list[i] < now.list[first]) {
                first = i;
                bits = 0;
            }
            if (now.list[i] == now.list[first]) {
                bits |= 1 << i;
            }
        }
        told.tell(bits, now.openDebtsOf(bits));
        return first;
    }

    public int lapse(int n) {
        if (!isSpan(n)) {
            return NONE;
        }
        trial.copyFrom(now);
        days.pass(trial, rule, n);
        told.tell(trial.sumOf(days.lapsed));
        return days.lapsed;
    }

    private static boolean isSpan(int n) {
        return n >= 0 && n <= MOST_DAYS;
    }

    public int days(int n) {
        if (!isSpan(n)) {
            return NONE;
        }
        days.pass(now, rule, n);
        forgetPayments();
        told.tell(days.prices, Integer.bitCount(days.lapsed));
        return days.payments;
    }

    public int best(int n) {
        if (!isSpan(n)) {
            return NONE;
        }
        int first = 0;
        int greatest = -1;
        told.clear();
        for (int sort = 0; sort < SORTS; sort++) {
            trial.copyFrom(now);
            trial.laws[SORT] = sort;
            days.pass(trial, rule, n);
            told.add(days.sums);
            if (days.sums > greatest) {
                greatest = days.sums;
                first = sort;
            }
        }
        return first;
    }

    public int pays(int person, int v, int n) throws NoSuchElementException {
        if (!now.isPerson(person) || v < 0 || v > now.coin[person] || !isSpan(n)) {
            throw new NoSuchElementException();
        }
        return wealthBehind(person, v, n) - wealthBehind(person, 0, n);
    }

    private int wealthBehind(int person, int v, int n) {
        trial.copyFrom(now);
        trial.hidden[person] = v;
        days.pass(trial, rule, n);
        return trial.coin[person] + trial.favoursOwedTo(person);
    }

    public int spread() {
        int total = now.allCoin();
        if (total == 0) {
            return NOT;
        }
        long apart = 0;
        int greatest = now.coin[0];
        int least = now.coin[0];
        for (int i = 0; i < now.people; i++) {
            greatest = Math.max(greatest, now.coin[i]);
            least = Math.min(least, now.coin[i]);
            for (int k = 0; k < i; k++) {
                apart += Math.abs(now.coin[i] - now.coin[k]);
            }
        }
        tellFraction(apart, (long) now.people * total);
        told.add(greatest);
        told.add(least);
        return 0;
    }

    private void tellFraction(long upper, long lower) {
        long shared = commonMeasure(upper, lower);
        if (shared > 0) {
            told.tell(upper / shared, lower / shared);
        }
    }

    private static long commonMeasure(long a, long b) {
        long greater = a;
        long less = b;
        for (int i = 0; i < 1000 && less != 0; i++) {
            long rest = greater % less;
            greater = less;
            less = rest;
        }
        return greater;
    }

    // ---- kept

    public int today() {
        return now.day;
    }

    public int seed(int v) {
        int was = now.r;
        now.r = v;
        return was;
    }

    public boolean keep(int i) {
        if (i == 0) {
            keptFirst.copyFrom(now);
            isFirstKept = true;
            return true;
        }
        if (i == 1) {
            keptSecond.copyFrom(now);
            isSecondKept = true;
            return true;
        }
        return false;
    }

    public boolean again(int i) {
        if (i == 0 && isFirstKept) {
            return takeAgain(keptFirst);
        }
        if (i == 1 && isSecondKept) {
            return takeAgain(keptSecond);
        }
        return false;
    }

    private boolean takeAgain(Town kept) {
        if (kept.people != now.people || kept.debts != now.debts) {
            return false;
        }
        now.copyFrom(kept);
        forgetPayments();
        return true;
    }

    public int count(int what) {
        switch (what) {
            case 0:
                return now.people;
            case 1:
                return now.debts;
            case 2:
                return now.openDebts();
            case 3:
                return undoables;
            case 4:
                return now.lentCount;
            case 5:
                return now.allCoin();
            case 6:
                return told.size;
            case 7:
                return text.length();
            default:
                return NONE;
        }
    }

    public long row(int i) throws NoSuchElementException {
        if (i < 0 || i >= told.size) {
            throw new NoSuchElementException();
        }
        return told.numbers[i];
    }

    /** The signs told so far. */
    private static final class Text {
        private static final int ROOM = 80;

        private final int[] signs;
        private int length;

        Text() {
            signs = new int[ROOM];
        }

        boolean addFour(int v) {
            if (length + 4 > ROOM) {
                return false;
            }
            for (int i = 0; i < 4; i++) {
                signs[length + i] = v >>> 24 - 8 * i & 255;
            }
            length += 4;
            return true;
        }

        boolean cut(int n) {
            if (n < 0 || n > length) {
                return false;
            }
            length = n;
            return true;
        }

        void clear() {
            length = 0;
        }

        int length() {
            return length;
        }

        /** The sign at a place; NONE behind the end. */
        int at(int i) {
            return i < 0 || i >= length ? NONE : signs[i];
        }
    }

    /** The ROW: the numbers told last. */
    private static final class Told {
        private final long[] numbers;
        private int size;

        Told() {
            numbers = new long[MOST_DEBTS];
        }

        void clear() {
            size = 0;
        }

        void add(long v) {
            if (size < numbers.length) {
                numbers[size] = v;
                size++;
            }
        }

        void tell(long only) {
            clear();
            add(only);
        }

        void tell(long first, long second) {
            clear();
            add(first);
            add(second);
        }
    }

    /** All that a call can change in a town, so that it can be kept, and tried on a copy. */
    private static final class Town {
        private final int[] coin;
        private final int[] asks;
        private final int[] kind;
        private final int[] hidden;
        private final int[] atNoon;
        private final int[] list;
        private final int[] owes;
        private final int[] gets;
        private final int[] sums;
        private final int[] dues;
        private final int[] stand;
        private final int[] payer;
        private final int[] favours;
        private final int[] lent;
        private final int[] laws;
        private int people;
        private int debts;
        private int lentCount;
        private int day;
        private int r;

        Town() {
            coin = new int[MOST_PEOPLE];
            asks = new int[MOST_PEOPLE];
            kind = new int[MOST_PEOPLE];
            hidden = new int[MOST_PEOPLE];
            atNoon = new int[MOST_PEOPLE];
            list = new int[MOST_PEOPLE];
            owes = new int[MOST_DEBTS];
            gets = new int[MOST_DEBTS];
            sums = new int[MOST_DEBTS];
            dues = new int[MOST_DEBTS];
            stand = new int[MOST_DEBTS];
            payer = new int[MOST_DEBTS];
            favours = new int[MOST_PEOPLE * MOST_PEOPLE];
            lent = new int[3 * MOST_LENT];
            laws = new int[4];
            laws[BY] = 1;
            r = 1;
        }

        void copyFrom(Town other) {
            System.arraycopy(other.coin, 0, coin, 0, MOST_PEOPLE);
            System.arraycopy(other.asks, 0, asks, 0, MOST_PEOPLE);
            System.arraycopy(other.kind, 0, kind, 0, MOST_PEOPLE);
            System.arraycopy(other.hidden, 0, hidden, 0, MOST_PEOPLE);
            System.arraycopy(other.atNoon, 0, atNoon, 0, MOST_PEOPLE);
            System.arraycopy(other.owes, 0, owes, 0, MOST_DEBTS);
            System.arraycopy(other.gets, 0, gets, 0, MOST_DEBTS);
            System.arraycopy(other.sums, 0, sums, 0, MOST_DEBTS);
            System.arraycopy(other.dues, 0, dues, 0, MOST_DEBTS);
            System.arraycopy(other.stand, 0, stand, 0, MOST_DEBTS);
            System.arraycopy(other.payer, 0, payer, 0, MOST_DEBTS);
            System.arraycopy(other.favours, 0, favours, 0, MOST_PEOPLE * MOST_PEOPLE);
            System.arraycopy(other.lent, 0, lent, 0, 3 * MOST_LENT);
            System.arraycopy(other.laws, 0, laws, 0, 4);
            people = other.people;
            debts = other.debts;
            lentCount = other.lentCount;
            day = other.day;
            r = other.r;
        }

        boolean isPerson(int i) {
            return i >= 0 && i < people;
        }

        boolean isDebt(int i) {
            return i >= 0 && i < debts;
        }

        boolean isOpen(int i) {
            return isDebt(i) && stand[i] == OPEN;
        }

        /** False without room. */
        boolean addPerson(int coins, int asked, boolean isKind) {
            if (people >= MOST_PEOPLE) {
                return false;
            }
            coin[people] = coins;
            asks[people] = asked;
            kind[people] = isKind ? 1 : 0;
            hidden[people] = 0;
            atNoon[people] = coins;
            people++;
            return true;
        }

        /** False without room. */
        boolean addDebt(int from, int to, int sum, int due) {
            if (debts >= MOST_DEBTS) {
                return false;
            }
            owes[debts] = from;
            gets[debts] = to;
            sums[debts] = sum;
            dues[debts] = due;
            stand[debts] = OPEN;
            payer[debts] = NONE;
            debts++;
            return true;
        }

        int everybody() {
            return (1 << people) - 1;
        }

        int counted(int person) {
            return coin[person] - hidden[person];
        }

        int countList() {
            int sum = 0;
            for (int i = 0; i < people; i++) {
                atNoon[i] = counted(i);
                sum += atNoon[i];
            }
            return sum;
        }

        /** THE LIST by THE LAW, as the calls below use it. */
        void makeList() {
            for (int i = 0; i < people; i++) {
                list[i] = laws[AT_NOON] == 1 ? atNoon[i] : counted(i);
            }
        }

        int belowBits(int person) {
            int height = list[person];
            int from = LEAST;
            int to = height - 1;
            if (laws[SORT] == 1) {
                from = greatestUnder(height);
            } else if (laws[SORT] == 2) {
                from = height + 1;
                to = GREATEST;
            } else if (laws[SORT] == 3) {
                to = height - laws[BY];
            }
            int bits = 0;
            for (int i = 0; i < people; i++) {
                if (i != person && list[i] >= from && list[i] <= to) {
                    bits |= 1 << i;
                }
            }
            return bits;
        }

        private int greatestUnder(int height) {
            int greatest = LEAST;
            for (int i = 0; i < people; i++) {
                if (list[i] < height && list[i] > greatest) {
                    greatest = list[i];
                }
            }
            return greatest;
        }

        /** Who neither owes a DEBT nor gets it. */
        int outsiders(int debt) {
            return everybody() & ~(1 << owes[debt] | 1 << gets[debt]);
        }

        int payers(int debt) {
            if (!isOpen(debt)) {
                return 0;
            }
            int bits = belowBits(owes[debt]) & outsiders(debt);
            for (int i = 0; i < people; i++) {
                if (counted(i) < sums[debt]) {
                    bits &= ~(1 << i);
                }
            }
            return bits;
        }

        boolean canPay(int person, int debt) {
            if (!isPerson(person) || !isOpen(debt)) {
                return false;
            }
            makeList();
            return (payers(debt) & 1 << person) != 0;
        }

        int price(int person, int debt) {
            return kind[person] == 1 ? 0 : sums[debt] + sums[debt] * asks[person] / 100;
        }

        void shift(int from, int to, int coins) {
            coin[from] -= coins;
            coin[to] += coins;
        }

        int makePayment(int person, int debt) {
            int price = price(person, debt);
            shift(person, gets[debt], sums[debt]);
            favours[owes[debt] * MOST_PEOPLE + person] += price;
            stand[debt] = PAID;
            payer[debt] = person;
            return price;
        }

        void unmakePayment(int debt) {
            if (!isDebt(debt) || !isPerson(payer[debt])) {
                return;
            }
            int person = payer[debt];
            shift(gets[debt], person, sums[debt]);
            favours[owes[debt] * MOST_PEOPLE + person] -= price(person, debt);
            stand[debt] = OPEN;
            payer[debt] = NONE;
        }

        /** Two places of favours, against one another: by how much both are less together. */
        int setOff(int there, int here) {
            int lesser = Math.min(favours[there], favours[here]);
            favours[there] -= lesser;
            favours[here] -= lesser;
            return 2 * lesser;
        }

        boolean canGive(int from, int to, int coins) {
            return isPerson(from) && isPerson(to) && from != to && coins >= 1 && coins <= counted(from);
        }

        void noteLent(int from, int to, int coins) {
            if (lentCount < MOST_LENT) {
                lent[3 * lentCount] = from;
                lent[3 * lentCount + 1] = to;
                lent[3 * lentCount + 2] = coins;
                lentCount++;
            }
        }

        boolean giveLastBack() {
            if (lentCount < 1) {
                return false;
            }
            int lender = lent[3 * lentCount - 3];
            int borrower = lent[3 * lentCount - 2];
            int coins = lent[3 * lentCount - 1];
            if (!canGive(borrower, lender, coins)) {
                return false;
            }
            shift(borrower, lender, coins);
            lentCount--;
            return true;
        }

        int draw(int n) {
            r = r * 1103515245 + 12345;
            return n > 0 ? (r >>> 16) % n : 0;
        }

        int openOwedBy(int person) {
            return sumOf(openDebtsOf(1 << person));
        }

        int openOwedTo(int person) {
            int sum = 0;
            for (int i = 0; i < debts; i++) {
                if (stand[i] == OPEN && gets[i] == person) {
                    sum += sums[i];
                }
            }
            return sum;
        }

        int openDebtsOf(int owers) {
            int bits = 0;
            for (int i = 0; i < debts; i++) {
                if (stand[i] == OPEN && (owers & 1 << owes[i]) != 0) {
                    bits |= 1 << i;
                }
            }
            return bits;
        }

        int openDebts() {
            return openDebtsOf(everybody());
        }

        int openDueBy(int due) {
            int bits = openDebts();
            for (int i = 0; i < debts; i++) {
                if (dues[i] > due) {
                    bits &= ~(1 << i);
                }
            }
            return bits;
        }

        boolean hasOpenDebt(int from, int to) {
            for (int i = 0; i < debts; i++) {
                if (stand[i] == OPEN && owes[i] == from && gets[i] == to) {
                    return true;
                }
            }
            return false;
        }

        int sumOf(int bits) {
            int sum = 0;
            for (int i = 0; i < debts; i++) {
                if ((bits & 1 << i) != 0) {
                    sum += sums[i];
                }
            }
            return sum;
        }

        int favoursOwedBy(int person) {
            int sum = 0;
            for (int i = 0; i < people; i++) {
                sum += favours[person * MOST_PEOPLE + i];
            }
            return sum;
        }

        int favoursOwedTo(int person) {
            int sum = 0;
            for (int i = 0; i < people; i++) {
                sum += favours[i * MOST_PEOPLE + person];
            }
            return sum;
        }

        int allCoin() {
            int sum = 0;
            for (int i = 0; i < people; i++) {
                sum += coin[i];
            }
            return sum;
        }

        /** Whether PAYMENTS can go on in it as in another one: what a text told once is not asked again. */
        boolean isLike(Town other) {
            boolean isSame = people == other.people && debts == other.debts;
            for (int i = BY; i <= AT_NOON; i++) {
                isSame = isSame && laws[i] == other.laws[i];
            }
            for (int i = 0; i < people && isSame; i++) {
                isSame = coin[i] == other.coin[i] && hidden[i] == other.hidden[i] && atNoon[i] == other.atNoon[i];
            }
            for (int i = 0; i < debts && isSame; i++) {
                isSame = stand[i] == other.stand[i];
            }
            return isSame;
        }
    }

    /** Reads THE TOWN; its place stands at the sign that can't stand there, when a reading fails. */
    private static final class TownReader {
        private static final int LIMIT = 76;

        private int limit;
        private int place;

        /** How many LINES came into the town; -1 - p, and nothing came, if the sign at p can't stand there. */
        int read(Text text, Town town) {
            if (text.length() == 0) {
                return 0;
            }
            limit = Math.min(LIMIT, text.length());
            place = 0;
            int people = town.people;
            int debts = town.debts;
            int lines = 0;
            boolean goesOn = true;
            while (goesOn && lines <= LIMIT) {
                goesOn = readLine(text, town);
                if (goesOn) {
                    lines++;
                    goesOn = takes(text, ';');
                    if (!goesOn && place == text.length()) {
                        return lines;
                    }
                }
            }
            town.people = people;
            town.debts = debts;
            return -1 - place;
        }

        private int peek(Text text) {
            return place < limit ? text.at(place) : NONE;
        }

        private boolean takes(Text text, char sign) {
            if (peek(text) != sign) {
                return false;
            }
            place++;
            return true;
        }

        private static boolean isDigit(int sign) {
            return sign >= '0' && sign <= '9';
        }

        private boolean readLine(Text text, Town town) {
            if (isDigit(peek(text))) {
                return town.people < MOST_PEOPLE && readPerson(text, town);
            }
            return peek(text) == 'd' && town.debts < MOST_DEBTS && readDebt(text, town);
        }

        private boolean readPerson(Text text, Town town) {
            int coin = number(text, 3);
            if (!takes(text, ',')) {
                return false;
            }
            int asks = number(text, 2);
            if (asks < 0) {
                return false;
            }
            return town.addPerson(coin, asks, takes(text, '!'));
        }

        private boolean readDebt(Text text, Town town) {
            place++;
            int from = person(text, town, NONE);
            if (from < 0 || !takes(text, '>')) {
                return false;
            }
            int to = person(text, town, from);
            if (to < 0 || !takes(text, '*')) {
                return false;
            }
            int sum = number(text, 2);
            if (sum == 0) {
                place--;
            }
            if (sum <= 0 || !takes(text, '@')) {
                return false;
            }
            int due = number(text, 2);
            return due >= 0 && town.addDebt(from, to, sum, due);
        }

        /** One of PEOPLE who is not another one; NONE, its place unmoved, if none such stands there. */
        private int person(Text text, Town town, int other) {
            int person = isDigit(peek(text)) ? peek(text) - '0' : NONE;
            if (!town.isPerson(person) || person == other) {
                return NONE;
            }
            place++;
            return person;
        }

        /** A number of so many digits at most; NONE without any. */
        private int number(Text text, int digits) {
            int value = NONE;
            for (int i = 0; i < digits && isDigit(peek(text)); i++) {
                value = Math.max(0, value) * 10 + peek(text) - '0';
                place++;
            }
            return value;
        }
    }

    /** THE RULE, its things and what to do with them in the order in which they are done. */
    private static final class Rule {
        private static final int LIMIT = 40;
        private static final int LETTER = 1000;
        private static final int ACT = 2000;
        private static final int NEGATE = ACT + 7;

        private final int[] steps;
        private final int[] values;
        private int size;

        Rule() {
            steps = new int[LIMIT];
            values = new int[LIMIT];
        }

        void take(RuleReader reader) {
            System.arraycopy(reader.steps, 0, steps, 0, LIMIT);
            size = reader.size;
        }

        /** Who is WILLING to pay a DEBT; NONE: nobody. */
        int chosen(Town town, int debt) {
            town.makeList();
            int payers = town.payers(debt);
            int who = NONE;
            int greatest = -1;
            for (int i = 0; i < town.people; i++) {
                if ((payers & 1 << i) != 0) {
                    int worth = worth(town, i, debt);
                    if (worth > greatest) {
                        greatest = worth;
                        who = i;
                    }
                }
            }
            return who;
        }

        int worth(Town town, int person, int debt) {
            int height = 0;
            for (int i = 0; i < size; i++) {
                int step = steps[i];
                if (step < ACT && height < LIMIT) {
                    values[height] = step < LETTER ? step : thing(step - LETTER, town, person, debt);
                    height++;
                } else if (step == NEGATE && height > 0) {
                    values[height - 1] = -values[height - 1];
                } else if (height > 1) {
                    height--;
                    values[height - 1] = done(step - ACT, values[height - 1], values[height]);
                }
            }
            return height > 0 ? values[0] : 0;
        }

        private static int thing(int letter, Town town, int person, int debt) {
            switch (letter) {
                case 0:
                    return person;
                case 1:
                    return town.counted(person);
                case 2:
                    return town.asks[person];
                case 3:
                    return town.sums[debt];
                case 4:
                    return town.price(person, debt);
                case 5:
                    return town.favoursOwedTo(person);
                case 6:
                    return town.openOwedBy(person);
                default:
                    return town.hasOpenDebt(person, town.owes[debt]) ? 1 : 0;
            }
        }

        private static int done(int act, int a, int b) {
            switch (act) {
                case 0:
                    return a < b ? 1 : 0;
                case 1:
                    return a > b ? 1 : 0;
                case 2:
                    return a == b ? 1 : 0;
                case 3:
                    return a + b;
                case 4:
                    return a - b;
                case 5:
                    return a * b;
                default:
                    return b == 0 ? 0 : a / b;
            }
        }
    }

    /** Reads THE RULE, sign by sign, and puts what is to be done behind the things that it is done with. */
    private static final class RuleReader {
        private static final int DEEPEST = 4;
        private static final int BRACKET = Rule.NEGATE + 1;
        private static final String LETTERS = "icaspfog";
        private static final String ACTS = "<>=+-*/";

        private final int[] steps;
        private final int[] waiting;
        private final boolean[] isCompared;
        private int size;
        private int waitings;
        private int depth;
        private int digits;
        private boolean wantsThing;

        RuleReader() {
            steps = new int[Rule.LIMIT];
            waiting = new int[Rule.LIMIT];
            isCompared = new boolean[DEEPEST + 1];
        }

        /** 0; or -1 - p: the sign at p can't stand there. */
        int read(Text text) {
            start();
            int limit = Math.min(Rule.LIMIT, text.length());
            for (int i = 0; i < limit; i++) {
                int sign = text.at(i);
                boolean fits = wantsThing ? takesThing(sign) : takesBehind(sign);
                if (!fits) {
                    return -1 - i;
                }
            }
            boolean isCut = text.length() > limit;
            boolean isOver = limit == 0 || !wantsThing && depth == 0;
            if (isCut || !isOver) {
                return -1 - limit;
            }
            settle(1);
            return 0;
        }

        private void start() {
            size = 0;
            waitings = 0;
            depth = 0;
            digits = 0;
            wantsThing = true;
            isCompared[0] = false;
        }

        private boolean takesThing(int sign) {
            if (sign == '-') {
                await(Rule.NEGATE);
                return true;
            }
            if (sign == '(') {
                return opens();
            }
            int letter = LETTERS.indexOf((char) sign);
            boolean isDigit = TownReader.isDigit(sign);
            if (letter < 0 && !isDigit) {
                return false;
            }
            put(isDigit ? sign - '0' : Rule.LETTER + letter);
            digits = isDigit ? 1 : 0;
            wantsThing = false;
            return true;
        }

        private boolean takesBehind(int sign) {
            if (TownReader.isDigit(sign)) {
                return lengthens(sign - '0');
            }
            digits = 0;
            if (sign == ')') {
                return closes();
            }
            int act = ACTS.indexOf((char) sign);
            boolean compares = act >= 0 && act < 3;
            if (act < 0 || compares && isCompared[depth]) {
                return false;
            }
            isCompared[depth] = isCompared[depth] || compares;
            settle(strength(Rule.ACT + act));
            await(Rule.ACT + act);
            wantsThing = true;
            return true;
        }

        private boolean lengthens(int digit) {
            if (digits < 1 || digits > 2 || size < 1) {
                return false;
            }
            steps[size - 1] = steps[size - 1] * 10 + digit;
            digits++;
            return true;
        }

        private boolean opens() {
            if (depth >= DEEPEST) {
                return false;
            }
            depth++;
            isCompared[depth] = false;
            await(BRACKET);
            return true;
        }

        private boolean closes() {
            if (depth < 1) {
                return false;
            }
            settle(1);
            if (waitings > 0) {
                waitings--;
            }
            depth--;
            return true;
        }

        private static int strength(int act) {
            if (act == BRACKET) {
                return 0;
            }
            if (act == Rule.NEGATE) {
                return 4;
            }
            int number = act - Rule.ACT;
            if (number < 3) {
                return 1;
            }
            return number < 5 ? 2 : 3;
        }

        /** What waits and binds so strongly at least is done now. */
        private void settle(int least) {
            while (waitings > 0 && strength(waiting[waitings - 1]) >= least) {
                waitings--;
                put(waiting[waitings]);
            }
        }

        private void await(int act) {
            if (waitings < Rule.LIMIT) {
                waiting[waitings] = act;
                waitings++;
            }
        }

        private void put(int step) {
            if (size < Rule.LIMIT) {
                steps[size] = step;
                size++;
            }
        }
    }

    /** Tries coin by coin who must give what to whom, so that a DEBT may be paid. */
    private static final class Gifts {
        private final Town town;
        private int who;
        private int payers;

        Gifts() {
            town = new Town();
        }

        /** The least coin that who owes a DEBT must get so that somebody may pay it; 0: none does. */
        int leastGift(Town now, int debt) {
            town.copyFrom(now);
            int to = town.owes[debt];
            int most = town.allCoin();
            for (int coin = 1; coin <= most; coin++) {
                for (int from = 0; from < town.people; from++) {
                    if (town.canGive(from, to, coin)) {
                        payers = payersAfter(from, to, coin, debt);
                        if (payers != 0) {
                            who = from;
                            return coin;
                        }
                    }
                }
            }
            return 0;
        }

        /** The least coin that one must give away so that it may pay a DEBT; 0: none does. */
        int leastLoss(Town now, int person, int debt) {
            town.copyFrom(now);
            int most = town.counted(person);
            for (int coin = 1; coin <= most; coin++) {
                for (int to = 0; to < town.people; to++) {
                    if (to != person && (payersAfter(person, to, coin, debt) & 1 << person) != 0) {
                        who = to;
                        return coin;
                    }
                }
            }
            return 0;
        }

        private int payersAfter(int from, int to, int coin, int debt) {
            town.shift(from, to, coin);
            town.makeList();
            int bits = town.payers(debt);
            town.shift(to, from, coin);
            return bits;
        }
    }

    /**
     * All states of PAID DEBTS and COIN that rows of PAYMENTS lead to. A state is met behind all that lead to it,
     * as each PAYMENT makes one more of the DEBTS PAID: so one way through them sums up all rows.
     */
    private static final class States {
        private static final int LIMIT = 3000;
        private static final int PLACES = 8192;
        private static final int LANE = 16;
        /** Six can pay a DEBT at most, so that a PAYMENT takes six bits, and ten of them a long. */
        private static final int MOST_RANKS = MOST_PEOPLE - 2;
        private static final int STEP_BITS = 6;

        private final Town town;
        private final long[] low;
        private final long[] high;
        private final long[] ways;
        private final long[] rows;
        private final int[] paid;
        private final int[] prices;
        private final int[] places;
        private final int[] before;
        private int size;
        private int these;
        private int payable;
        private int due;
        private boolean isVisited;
        private boolean isTooMany;

        States() {
            town = new Town();
            low = new long[LIMIT];
            high = new long[LIMIT];
            ways = new long[LIMIT];
            rows = new long[LIMIT];
            paid = new int[LIMIT];
            prices = new int[LIMIT];
            places = new int[PLACES];
            before = new int[MOST_DEBTS];
        }

        /** False: there are too many. */
        boolean visit(Town now, int sort, int day) {
            if (isVisited && due == day && town.laws[SORT] == sort && town.isLike(now)) {
                return !isTooMany;
            }
            town.copyFrom(now);
            town.laws[SORT] = sort;
            due = day;
            these = town.openDueBy(day);
            start();
            for (int i = 0; i < LIMIT && i < size && !isTooMany; i++) {
                load(i);
                leave(i);
            }
            load(0);
            isVisited = true;
            return !isTooMany;
        }

        private void start() {
            Arrays.fill(places, 0);
            Arrays.fill(before, these);
            payable = 0;
            isTooMany = false;
            size = 0;
            long lows = 0;
            long highs = 0;
            for (int i = 0; i < town.people; i++) {
                lows += part(i, 0, town.coin[i]);
                highs += part(i, 1, town.coin[i]);
            }
            find(0, lows, highs);
            ways[0] = 1;
            prices[0] = 0;
        }

        /** So much coin of one, where it stands in the low (0) or the high (1) half of all COIN. */
        private static long part(int person, int half, int coin) {
            return person >> 2 == half ? (long) coin << LANE * (person & 3) : 0;
        }

        private int coinIn(int state, int person) {
            long half = person < 4 ? low[state] : high[state];
            return (int) (half >>> LANE * (person & 3)) & 0xFFFF;
        }

        private void load(int state) {
            for (int i = 0; i < town.people; i++) {
                town.coin[i] = coinIn(state, i);
            }
        }

        private void leave(int state) {
            town.makeList();
            int left = these & ~paid[state];
            for (int i = 0; i < town.debts; i++) {
                int payers = (left & 1 << i) != 0 ? town.payers(i) : 0;
                if (payers != 0) {
                    payable |= 1 << i;
                    before[i] &= paid[state];
                }
                for (int k = 0; k < town.people; k++) {
                    if ((payers & 1 << k) != 0) {
                        step(state, i, k);
                    }
                }
            }
        }

        private void step(int state, int debt, int person) {
            int sum = town.sums[debt];
            int to = town.gets[debt];
            long lows = low[state] - part(person, 0, sum) + part(to, 0, sum);
            long highs = high[state] - part(person, 1, sum) + part(to, 1, sum);
            int next = find(paid[state] | 1 << debt, lows, highs);
            if (next < 0) {
                isTooMany = true;
                return;
            }
            ways[next] += ways[state];
            int price = prices[state] + town.price(person, debt);
            long row = rows[state] << STEP_BITS | debt * MOST_RANKS + rank(person, debt);
            if (price < prices[next] || price == prices[next] && row < rows[next]) {
                prices[next] = price;
                rows[next] = row;
            }
        }

        private int rank(int person, int debt) {
            return person - (town.owes[debt] < person ? 1 : 0) - (town.gets[debt] < person ? 1 : 0);
        }

        /** The number of a state, a new one perhaps; NONE: there would be too many. */
        private int find(int mask, long lows, long highs) {
            long mixed = (lows * 31 + highs) * 0x9E3779B97F4A7C15L + mask * 0x2545F4914F6CDD1DL;
            int place = (int) (mixed >>> 40) & PLACES - 1;
            for (int i = 0; i < PLACES; i++) {
                int state = places[place] - 1;
                if (state < 0) {
                    return newState(place, mask, lows, highs);
                }
                if (paid[state] == mask && low[state] == lows && high[state] == highs) {
                    return state;
                }
                place = place + 1 & PLACES - 1;
            }
            return NONE;
        }

        private int newState(int place, int mask, long lows, long highs) {
            if (size >= LIMIT) {
                return NONE;
            }
            int state = size;
            size++;
            places[place] = size;
            paid[state] = mask;
            low[state] = lows;
            high[state] = highs;
            ways[state] = 0;
            prices[state] = GREATEST;
            rows[state] = 0;
            return state;
        }

        int mostPaid() {
            int most = 0;
            for (int i = 0; i < size; i++) {
                most = Math.max(most, Integer.bitCount(paid[i]));
            }
            return most;
        }

        int greatestSum() {
            int greatest = 0;
            for (int i = 0; i < size; i++) {
                greatest = Math.max(greatest, town.sumOf(paid[i]));
            }
            return greatest;
        }

        /** The state with all PAID for the least PRICES, by the least row; NONE: none has all. */
        int cheapestEnd() {
            int best = NONE;
            for (int i = 0; i < size; i++) {
                if (paid[i] == these) {
                    if (best < 0 || prices[i] < prices[best] || prices[i] == prices[best] && rows[i] < rows[best]) {
                        best = i;
                    }
                }
            }
            return best;
        }

        /** A PAYMENT of the best row to a state, as it is told: so many stand behind it. */
        int payment(int state, int behind) {
            int step = (int) (rows[state] >>> STEP_BITS * behind) & (1 << STEP_BITS) - 1;
            int debt = step / MOST_RANKS;
            if (!town.isDebt(debt)) {
                return NONE;
            }
            int person = step % MOST_RANKS;
            int lower = Math.min(town.owes[debt], town.gets[debt]);
            int upper = Math.max(town.owes[debt], town.gets[debt]);
            if (person >= lower) {
                person++;
            }
            if (person >= upper) {
                person++;
            }
            return 10 * debt + person;
        }

        long fullWays() {
            long sum = 0;
            for (int i = 0; i < size; i++) {
                sum += paid[i] == these ? ways[i] : 0;
            }
            return sum;
        }

        /** PEOPLE (bits) who pay in some row to a state with all PAID. */
        int allPayers() {
            int bits = 0;
            for (int i = 0; i < size; i++) {
                bits |= paid[i] == these ? payersTo(i) : 0;
            }
            return bits;
        }

        /** The fewest PEOPLE, by the least number, who pay in a row to a state with all PAID; NONE: none has all. */
        int fewestPayers() {
            int best = NONE;
            for (int i = 0; i < size; i++) {
                if (paid[i] == these && isFewer(payersTo(i), best)) {
                    best = payersTo(i);
                }
            }
            return best;
        }

        private static boolean isFewer(int set, int other) {
            int more = Integer.bitCount(set) - Integer.bitCount(other);
            return other < 0 || more < 0 || more == 0 && set < other;
        }

        /** Who pays in any row to a state: who has less there than it had and has got. */
        private int payersTo(int state) {
            int bits = 0;
            for (int i = 0; i < town.people; i++) {
                if (coinIn(state, i) < town.coin[i] + got(paid[state], i)) {
                    bits |= 1 << i;
                }
            }
            return bits;
        }

        private int got(int mask, int person) {
            int sum = 0;
            for (int i = 0; i < town.debts; i++) {
                if ((mask & 1 << i) != 0 && town.gets[i] == person) {
                    sum += town.sums[i];
                }
            }
            return sum;
        }
    }

    /** DEBTS paid in parts: who can pay parts of which, and by how much any PEOPLE bar more. */
    private static final class Parts {
        private final Town town;
        private final int[] payers;
        private int these;

        Parts() {
            town = new Town();
            payers = new int[MOST_DEBTS];
        }

        void look(Town now, int sort, int day) {
            town.copyFrom(now);
            town.laws[SORT] = sort;
            town.makeList();
            these = town.openDueBy(day);
            for (int i = 0; i < town.debts; i++) {
                boolean isDue = (these & 1 << i) != 0;
                payers[i] = isDue ? town.belowBits(town.owes[i]) & town.outsiders(i) : 0;
            }
        }

        private int countedOf(int set) {
            int sum = 0;
            for (int i = 0; i < town.people; i++) {
                if ((set & 1 << i) != 0) {
                    sum += town.counted(i);
                }
            }
            return sum;
        }

        /** DEBTS of which anybody else than a set may pay parts. */
        int debtsBehind(int set) {
            int bits = 0;
            for (int i = 0; i < town.debts; i++) {
                if ((payers[i] & ~set) != 0) {
                    bits |= 1 << i;
                }
            }
            return bits;
        }

        int sumsBehind(int set) {
            return town.sumOf(debtsBehind(set));
        }

        /**
         * The first set that bars most: what it has and the DEBTS behind it are as much as can be paid at most,
         * as the greatest flow is as much as the least that bars it.
         */
        int leastBar() {
            int best = 0;
            int least = GREATEST;
            for (int set = 0; set <= town.everybody(); set++) {
                int bar = countedOf(set) + sumsBehind(set);
                if (bar < least) {
                    least = bar;
                    best = set;
                }
            }
            return best;
        }

        int greatestFlow() {
            int set = leastBar();
            return countedOf(set) + sumsBehind(set);
        }

        /** DEBTS for which those who may pay parts have not enough together. */
        int tooGreat() {
            int bits = 0;
            for (int i = 0; i < town.debts; i++) {
                if ((these & 1 << i) != 0 && countedOf(payers[i]) < town.sums[i]) {
                    bits |= 1 << i;
                }
            }
            return bits;
        }
    }

    /** Lets DAYS go by, and counts what happens in them. */
    private static final class Days {
        private final int[] order;
        private int payments;
        private int prices;
        private int sums;
        private int lapsed;

        Days() {
            order = new int[MOST_DEBTS];
        }

        void pass(Town town, Rule rule, int n) {
            payments = 0;
            prices = 0;
            sums = 0;
            lapsed = 0;
            for (int i = 0; i < n; i++) {
                town.countList();
                int length = sortDue(town);
                for (int k = 0; k < length; k++) {
                    int debt = order[k];
                    int person = rule.chosen(town, debt);
                    if (person >= 0) {
                        prices += town.makePayment(person, debt);
                        sums += town.sums[debt];
                        payments++;
                    } else if (town.day >= town.dues[debt] + town.laws[LATE]) {
                        town.stand[debt] = LAPSED;
                        lapsed |= 1 << debt;
                    }
                }
                town.day++;
            }
        }

        /** Puts OPEN DEBTS that are DUE into their order: how many. */
        private int sortDue(Town town) {
            int due = town.openDueBy(town.day);
            int length = 0;
            for (int i = 0; i < town.debts; i++) {
                if ((due & 1 << i) != 0 && length < MOST_DEBTS) {
                    int place = length;
                    while (place > 0 && town.dues[order[place - 1]] > town.dues[i]) {
                        order[place] = order[place - 1];
                        place--;
                    }
                    order[place] = i;
                    length++;
                }
            }
            return length;
        }
    }
}
