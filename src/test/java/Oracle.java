import java.util.ArrayDeque;
import java.util.ArrayList;
import java.util.Arrays;
import java.util.Comparator;
import java.util.HashMap;
import java.util.HashSet;
import java.util.List;
import java.util.Map;
import java.util.NoSuchElementException;
import java.util.Set;

/**
 * The document once more, as slowly and as literally as it can be said: PEOPLE and DEBTS as objects, rows of
 * PAYMENTS by recursion, parts by paths that add to a flow, texts by one sign after the other.
 */
final class Oracle {
    static final class Person {
        int coin;
        int asks;
        boolean kind;
        int hidden;
        int noon;

        Person copy() {
            Person p = new Person();
            p.coin = coin;
            p.asks = asks;
            p.kind = kind;
            p.hidden = hidden;
            p.noon = noon;
            return p;
        }

        int counted() {
            return coin - hidden;
        }
    }

    static final class Debt {
        int owes;
        int gets;
        int sum;
        int due;
        int state;
        int payer = -1;

        Debt copy() {
            Debt d = new Debt();
            d.owes = owes;
            d.gets = gets;
            d.sum = sum;
            d.due = due;
            d.state = state;
            d.payer = payer;
            return d;
        }
    }

    static final class Place {
        List<Person> people = new ArrayList<>();
        List<Debt> debts = new ArrayList<>();
        int[][] favours = new int[8][8];
        int[] law = {0, 1, 0, 0};
        int today;
        int r = 1;
        ArrayDeque<int[]> lent = new ArrayDeque<>();

        Place copy() {
            Place c = new Place();
            for (Person p : people) {
                c.people.add(p.copy());
            }
            for (Debt d : debts) {
                c.debts.add(d.copy());
            }
            for (int i = 0; i < 8; i++) {
                c.favours[i] = favours[i].clone();
            }
            c.law = law.clone();
            c.today = today;
            c.r = r;
            for (int[] l : lent) {
                c.lent.addLast(l.clone());
            }
            return c;
        }

        int listed(int i) {
            return law[2] == 1 ? people.get(i).noon : people.get(i).counted();
        }

        boolean below(int low, int high) {
            if (low == high) {
                return false;
            }
            int a = listed(low);
            int b = listed(high);
            if (law[0] == 0) {
                return a < b;
            }
            if (law[0] == 1) {
                boolean between = false;
                for (int i = 0; i < people.size(); i++) {
                    between |= listed(i) < b && listed(i) > a;
                }
                return a < b && !between;
            }
            if (law[0] == 2) {
                return a > b;
            }
            return a <= b - law[1];
        }

        boolean part(int who, Debt d) {
            return who != d.owes && who != d.gets && below(who, d.owes);
        }

        boolean may(int who, Debt d) {
            return d.state == 0 && part(who, d) && people.get(who).counted() >= d.sum;
        }

        int price(int who, Debt d) {
            Person p = people.get(who);
            return p.kind ? 0 : d.sum + d.sum * p.asks / 100;
        }

        int pay(int who, Debt d) {
            people.get(who).coin -= d.sum;
            people.get(d.gets).coin += d.sum;
            d.state = 1;
            d.payer = who;
            favours[d.owes][who] += price(who, d);
            return price(who, d);
        }

        void noon() {
            for (Person p : people) {
                p.noon = p.counted();
            }
        }

        int favoursOwedTo(int who) {
            int sum = 0;
            for (int[] f : favours) {
                sum += f[who];
            }
            return sum;
        }

        int owedBy(int who) {
            int sum = 0;
            for (Debt d : debts) {
                sum += d.state == 0 && d.owes == who ? d.sum : 0;
            }
            return sum;
        }
    }

    Place at = new Place();
    List<int[]> undo = new ArrayList<>();
    String text = "";
    String rule = "";
    long[] row = {};
    Place[] kept = new Place[2];

    private void tell(long... numbers) {
        row = numbers;
    }

    private boolean isOne(int i) {
        return i >= 0 && i < at.people.size();
    }

    private boolean isDebt(int i) {
        return i >= 0 && i < at.debts.size();
    }

    private boolean isOpen(int i) {
        return isDebt(i) && at.debts.get(i).state == 0;
    }

    // ---- the town

    int sign(int v) {
        if (text.length() > 76) {
            return -1;
        }
        text += "" + (char) (v >>> 24) + (char) (v >> 16 & 255) + (char) (v >> 8 & 255) + (char) (v & 255);
        return text.length();
    }

    boolean end(int n) {
        if (n < 0 || n > text.length()) {
            return false;
        }
        text = text.substring(0, n);
        return true;
    }

    /** One sign after the other, with what has been read of the LINE. */
    int town() {
        String t = text;
        text = "";
        if (t.isEmpty()) {
            return 0;
        }
        Place c = at.copy();
        String line = "";
        int lines = 0;
        for (int p = 0; p < t.length(); p++) {
            if (p == 76) {
                return isZeroSum(line) ? -76 : -77;
            }
            char s = t.charAt(p);
            if (s == ';' && isLine(line)) {
                put(c, line);
                line = "";
                lines++;
                continue;
            }
            if (isZeroSum(line) && (s == '@' || !couldBe(c, line + s))) {
                return -p;
            }
            line += s;
            if (!couldBe(c, line)) {
                return -1 - p;
            }
        }
        if (isZeroSum(line)) {
            return -t.length();
        }
        if (!isLine(line)) {
            return -1 - t.length();
        }
        put(c, line);
        at = c;
        undo.clear();
        return lines + 1;
    }

    private static boolean isZeroSum(String line) {
        return line.matches("d[0-9]>[0-9]\\*00?");
    }

    private static boolean isLine(String line) {
        return line.matches("[0-9]{1,3},[0-9]{1,2}!?") || line.matches("d[0-9]>[0-9]\\*(0[1-9]|[1-9][0-9]?)@[0-9]{1,2}");
    }

    private static boolean couldBe(Place c, String line) {
        if (line.charAt(0) != 'd') {
            return c.people.size() < 8 && line.matches("[0-9]{1,3}(,([0-9]{1,2}!?)?)?");
        }
        if (c.debts.size() > 9 || !line.matches("d([0-9](>([0-9](\\*([0-9]{1,2}(@([0-9]{1,2})?)?)?)?)?)?)?")) {
            return false;
        }
        boolean first = line.length() < 2 || line.charAt(1) - '0' < c.people.size();
        boolean second = line.length() < 4
            || line.charAt(3) - '0' < c.people.size() && line.charAt(3) != line.charAt(1);
        return first && second && !line.matches("d.>.\\*00?@.*");
    }

    private static void put(Place c, String line) {
        String[] parts = line.split("[d>*@,!]");
        if (line.charAt(0) == 'd') {
            Debt d = new Debt();
            d.owes = Integer.parseInt(parts[1]);
            d.gets = Integer.parseInt(parts[2]);
            d.sum = Integer.parseInt(parts[3]);
            d.due = Integer.parseInt(parts[4]);
            c.debts.add(d);
        } else {
            Person p = new Person();
            p.coin = Integer.parseInt(parts[0]);
            p.noon = p.coin;
            p.asks = Integer.parseInt(parts[1]);
            p.kind = line.endsWith("!");
            c.people.add(p);
        }
    }

    private static final class Fault extends Exception {
        private static final long serialVersionUID = 1;
        final int p;

        Fault(int p) {
            this.p = p;
        }
    }

    /** Reads an EXPRESSION by descending into it, and answers what it is for one and a DEBT. */
    private final class Descent {
        final String t;
        final int who;
        final Debt d;
        int p;

        Descent(String t, int who, Debt d) {
            this.t = t;
            this.who = who;
            this.d = d;
        }

        char peek() {
            return p < t.length() && p < 40 ? t.charAt(p) : 0;
        }

        int expression(int depth) throws Fault {
            int a = sum(depth);
            char s = peek();
            if (s != '<' && s != '>' && s != '=') {
                return a;
            }
            p++;
            int b = sum(depth);
            boolean is = s == '<' ? a < b : s == '>' ? a > b : a == b;
            return is ? 1 : 0;
        }

        int sum(int depth) throws Fault {
            int a = product(depth);
            while (peek() == '+' || peek() == '-') {
                p++;
                a = t.charAt(p - 1) == '+' ? a + product(depth) : a - product(depth);
            }
            return a;
        }

        int product(int depth) throws Fault {
            int a = signed(depth);
            while (peek() == '*' || peek() == '/') {
                p++;
                boolean times = t.charAt(p - 1) == '*';
                int b = signed(depth);
                a = times ? a * b : b == 0 ? 0 : a / b;
            }
            return a;
        }

        int signed(int depth) throws Fault {
            if (peek() == '-') {
                p++;
                return -signed(depth);
            }
            if (peek() == '(' && depth < 4) {
                p++;
                int a = expression(depth + 1);
                if (peek() != ')') {
                    throw new Fault(p);
                }
                p++;
                return a;
            }
            if (peek() >= '0' && peek() <= '9') {
                int from = p;
                while (peek() >= '0' && peek() <= '9' && p < from + 3) {
                    p++;
                }
                return Integer.parseInt(t.substring(from, p));
            }
            if (peek() == 0 || "icaspfog".indexOf(peek()) < 0) {
                throw new Fault(p);
            }
            p++;
            return d == null ? 0 : letter(t.charAt(p - 1));
        }

        int letter(char s) {
            Person one = at.people.get(who);
            switch (s) {
                case 'i': return who;
                case 'c': return one.counted();
                case 'a': return one.asks;
                case 's': return d.sum;
                case 'p': return at.price(who, d);
                case 'f': return at.favoursOwedTo(who);
                case 'o': return at.owedBy(who);
                default:
                    for (Debt e : at.debts) {
                        if (e.state == 0 && e.owes == who && e.gets == d.owes) {
                            return 1;
                        }
                    }
                    return 0;
            }
        }
    }

    int rule() {
        String t = text;
        text = "";
        if (!t.isEmpty()) {
            Descent descent = new Descent(t, 0, null);
            try {
                descent.expression(0);
            } catch (Fault e) {
                return -1 - e.p;
            }
            if (descent.p < t.length()) {
                return -1 - descent.p;
            }
        }
        rule = t;
        return 0;
    }

    int worth(int who, Debt d) {
        try {
            return rule.isEmpty() ? 0 : new Descent(rule, who, d).expression(0);
        } catch (Fault e) {
            throw new AssertionError(rule);
        }
    }

    int of(int person, int what) {
        if (!isOne(person) || what < 0 || what > 8) {
            throw new NoSuchElementException();
        }
        Person p = at.people.get(person);
        int owed = 0;
        for (Debt d : at.debts) {
            owed += d.state == 0 && d.gets == person ? d.sum : 0;
        }
        int[] all = {p.coin, p.asks, p.kind ? 1 : 0, p.hidden, at.listed(person), at.owedBy(person), owed,
            Arrays.stream(at.favours[person]).sum(), at.favoursOwedTo(person)};
        return all[what];
    }

    int debt(int debt, int what) {
        if (!isDebt(debt) || what < 0 || what > 5) {
            throw new NoSuchElementException();
        }
        Debt d = at.debts.get(debt);
        return new int[] {d.owes, d.gets, d.sum, d.due, d.state, d.payer}[what];
    }

    int law(int what, int v) {
        int[] most = {3, 99, 1, 99};
        if (what < 0 || what > 3 || v < 0 || v > most[what]) {
            return -1;
        }
        int was = at.law[what];
        at.law[what] = v;
        return was;
    }

    int sheet(int kind, int n, int f, int step) {
        if (kind < 0 || kind > 3 || n > 8) {
            return -1;
        }
        if (kind < 3 && n < 0) {
            return -2;
        }
        undo.clear();
        int entry = f;
        int sum = 0;
        for (int i = 0; i < at.people.size(); i++) {
            int v = kind == 0 ? (byte) entry : kind == 1 ? (short) entry : entry;
            v = kind == 3 || i >= n ? 0 : v < 0 ? 0 : v > 999 ? 999 : v;
            at.people.get(i).coin = v;
            at.people.get(i).hidden = 0;
            sum += v;
            entry += step;
        }
        return kind == 3 ? -3 : sum;
    }

    int noon() {
        at.noon();
        undo.clear();
        return at.people.stream().mapToInt(p -> p.noon).sum();
    }

    int hide(int person, int v) {
        if (!isOne(person) || v < 0 || v > at.people.get(person).coin) {
            return -1;
        }
        undo.clear();
        int was = at.people.get(person).hidden;
        at.people.get(person).hidden = v;
        return was;
    }

    int search(int person, int c) {
        if (!isOne(person) || c < 0 || c > 10) {
            return -1;
        }
        undo.clear();
        at.r = at.r * 1103515245 + 12345;
        long drawn = (at.r & 0xFFFFFFFFL) / 65536 % 10;
        if (drawn >= c) {
            return 0;
        }
        Person p = at.people.get(person);
        int had = p.hidden;
        p.coin -= had;
        p.hidden = 0;
        return had;
    }

    // ---- payments

    int below(int person) {
        if (!isOne(person)) {
            return -1;
        }
        int bits = 0;
        for (int i = 0; i < at.people.size(); i++) {
            bits += at.below(i, person) ? 1 << i : 0;
        }
        return bits;
    }

    private int mayBits(Place in, Debt d) {
        int bits = 0;
        for (int i = 0; i < in.people.size(); i++) {
            bits += in.may(i, d) ? 1 << i : 0;
        }
        return bits;
    }

    int may(int debt) {
        if (!isDebt(debt)) {
            return -1;
        }
        Debt d = at.debts.get(debt);
        int bits = mayBits(at, d);
        row = new long[0];
        for (int i = at.people.size() - 1; i >= 0; i--) {
            if (at.may(i, d) && (row.length == 0 || at.price(i, d) <= row[0])) {
                tell(at.price(i, d), i);
            }
        }
        return bits;
    }

    private int willingOne(Place in, Debt d) {
        Place here = at;
        at = in;
        int who = -1;
        for (int i = 0; i < in.people.size(); i++) {
            if (in.may(i, d) && worth(i, d) >= 0 && (who < 0 || worth(i, d) > worth(who, d))) {
                who = i;
            }
        }
        at = here;
        return who;
    }

    int willing(int debt) {
        if (!isDebt(debt)) {
            return -1;
        }
        Debt d = at.debts.get(debt);
        int who = willingOne(at, d);
        if (who < 0) {
            return -2;
        }
        tell(worth(who, d));
        return who;
    }

    int pay(int person, int debt) {
        if (!isOne(person) || !isDebt(debt)) {
            return -1;
        }
        Debt d = at.debts.get(debt);
        if (!at.may(person, d)) {
            return -2;
        }
        undo.add(new int[] {person, debt});
        return at.pay(person, d);
    }

    int undo() {
        if (undo.isEmpty()) {
            return -1;
        }
        int[] last = undo.remove(undo.size() - 1);
        Debt d = at.debts.get(last[1]);
        at.people.get(last[0]).coin += d.sum;
        at.people.get(d.gets).coin -= d.sum;
        at.favours[d.owes][last[0]] -= at.price(last[0], d);
        d.state = 0;
        d.payer = -1;
        return undo.size();
    }

    int judge(int n, int told) {
        if (n < 0 || n > 4) {
            return -1;
        }
        Place c = at.copy();
        tell(0, 0);
        for (int i = 0; i < n; i++) {
            int debt = (told >> 8 * i + 4) & 15;
            int who = (told >> 8 * i) & 15;
            if (debt >= c.debts.size() || who >= c.people.size() || !c.may(who, c.debts.get(debt))) {
                return i;
            }
            row[0] += c.pay(who, c.debts.get(debt));
            row[1] += c.debts.get(debt).sum;
        }
        return -2;
    }

    int favour(int from, int to) {
        return isOne(from) && isOne(to) && from != to ? at.favours[from][to] : -1;
    }

    int nets() {
        undo.clear();
        int ahead = Arrays.stream(at.favours).mapToInt(f -> Arrays.stream(f).sum()).sum();
        for (int i = 0; i < 8; i++) {
            for (int k = 0; k < 8; k++) {
                int off = i == k ? 0 : Math.min(at.favours[i][k], at.favours[k][i]);
                at.favours[i][k] -= off;
                at.favours[k][i] -= off;
            }
        }
        return ahead - Arrays.stream(at.favours).mapToInt(f -> Arrays.stream(f).sum()).sum();
    }

    private boolean canGive(int from, int to, int coin) {
        return isOne(from) && isOne(to) && from != to && coin > 0 && at.people.get(from).counted() >= coin;
    }

    private void move(Place in, int from, int to, int coin) {
        in.people.get(from).coin -= coin;
        in.people.get(to).coin += coin;
    }

    boolean give(int from, int to, int coin) {
        if (!canGive(from, to, coin)) {
            return false;
        }
        undo.clear();
        move(at, from, to, coin);
        return true;
    }

    int lend(int from, int to, int coin) {
        if (!canGive(from, to, coin) || at.lent.size() > 5) {
            return -1;
        }
        undo.clear();
        move(at, from, to, coin);
        at.lent.addLast(new int[] {from, to, coin});
        return at.lent.size();
    }

    int back() {
        if (at.lent.isEmpty()) {
            return -1;
        }
        int[] last = at.lent.peekLast();
        if (at.people.get(last[1]).counted() < last[2]) {
            return -2;
        }
        undo.clear();
        move(at, last[1], last[0], last[2]);
        at.lent.removeLast();
        return at.lent.size();
    }

    int gift(int debt) {
        if (!isOpen(debt)) {
            return -1;
        }
        if (mayBits(at, at.debts.get(debt)) != 0) {
            return 0;
        }
        for (int coin = 1; coin < 8000; coin++) {
            for (int from = 0; from < at.people.size(); from++) {
                int to = at.debts.get(debt).owes;
                if (canGive(from, to, coin)) {
                    Place c = at.copy();
                    move(c, from, to, coin);
                    int bits = mayBits(c, c.debts.get(debt));
                    if (bits != 0) {
                        tell(from, bits);
                        return coin;
                    }
                }
            }
        }
        return -2;
    }

    int poorer(int person, int debt) {
        if (!isOne(person) || !isOpen(debt)) {
            return -1;
        }
        if (at.may(person, at.debts.get(debt))) {
            return 0;
        }
        for (int coin = 1; coin <= at.people.get(person).counted(); coin++) {
            for (int to = 0; to < at.people.size(); to++) {
                if (canGive(person, to, coin)) {
                    Place c = at.copy();
                    move(c, person, to, coin);
                    if (c.may(person, c.debts.get(debt))) {
                        tell(to);
                        return coin;
                    }
                }
            }
        }
        return -2;
    }

    // ---- all rows of payments

    private static boolean isDay(int day) {
        return day >= 0 && day < 100;
    }

    private Set<Integer> these(int day) {
        Set<Integer> set = new HashSet<>();
        for (int i = 0; i < at.debts.size(); i++) {
            if (at.debts.get(i).state == 0 && at.debts.get(i).due <= day) {
                set.add(i);
            }
        }
        return set;
    }

    private static String name(Place in) {
        StringBuilder b = new StringBuilder();
        for (Debt d : in.debts) {
            b.append(d.state);
        }
        for (Person p : in.people) {
            b.append(' ').append(p.coin);
        }
        return b.toString();
    }

    /** All states, by their names, with none but some PEOPLE paying, and without some DEBT; null: too many. */
    private Map<String, Place> states(Place from, Set<Integer> these, int people, int without) {
        Map<String, Place> met = new HashMap<>();
        ArrayDeque<Place> left = new ArrayDeque<>();
        met.put(name(from), from);
        left.add(from);
        while (!left.isEmpty()) {
            Place s = left.removeLast();
            for (int d : these) {
                for (int i = 0; i < s.people.size() && d != without; i++) {
                    if ((people >> i & 1) == 1 && s.may(i, s.debts.get(d))) {
                        Place t = s.copy();
                        t.pay(i, t.debts.get(d));
                        if (met.putIfAbsent(name(t), t) == null) {
                            left.add(t);
                        }
                    }
                }
            }
            if (met.size() > 3000) {
                return null;
            }
        }
        return met;
    }

    private static int paidOf(Place s, Set<Integer> these) {
        int bits = 0;
        for (int d : these) {
            bits |= s.debts.get(d).state == 1 ? 1 << d : 0;
        }
        return bits;
    }

    private static int bitsOf(Set<Integer> these) {
        int bits = 0;
        for (int d : these) {
            bits |= 1 << d;
        }
        return bits;
    }

    int most(int day) {
        if (!isDay(day)) {
            return -1;
        }
        Map<String, Place> met = states(at, these(day), 255, -1);
        if (met == null) {
            return -3;
        }
        int most = 0;
        int sums = 0;
        for (Place s : met.values()) {
            int sum = 0;
            for (int d : these(day)) {
                sum += s.debts.get(d).state == 1 ? s.debts.get(d).sum : 0;
            }
            most = Math.max(most, Integer.bitCount(paidOf(s, these(day))));
            sums = Math.max(sums, sum);
        }
        tell(sums, met.size());
        return most;
    }

    /** What can follow a state till all are PAID: the rows' number, who pays in them, the best of them. */
    private static final class Rest {
        long ways;
        int users;
        int price;
        List<Integer> row;
    }

    private Rest rest(Place s, Set<Integer> these, Map<String, Rest> known) {
        Rest have = known.get(name(s));
        if (have != null) {
            return have;
        }
        Rest r = new Rest();
        if (paidOf(s, these) == bitsOf(these)) {
            r.ways = 1;
            r.row = new ArrayList<>();
        }
        List<Integer> sorted = new ArrayList<>(these);
        sorted.sort(Comparator.naturalOrder());
        for (int d : sorted) {
            for (int i = 0; i < s.people.size(); i++) {
                if (!s.may(i, s.debts.get(d))) {
                    continue;
                }
                Place t = s.copy();
                int price = t.pay(i, t.debts.get(d));
                Rest q = rest(t, these, known);
                if (q.ways == 0) {
                    continue;
                }
                r.ways += q.ways;
                r.users |= q.users | 1 << i;
                if (r.row == null || q.price + price < r.price) {
                    r.price = q.price + price;
                    r.row = new ArrayList<>();
                    r.row.add(10 * d + i);
                    r.row.addAll(q.row);
                }
            }
        }
        known.put(name(s), r);
        return r;
    }

    int all(int day) {
        if (!isDay(day)) {
            return -1;
        }
        if (states(at, these(day), 255, -1) == null) {
            return -3;
        }
        Rest r = rest(at, these(day), new HashMap<>());
        if (r.ways == 0) {
            return -2;
        }
        row = r.row.stream().mapToLong(v -> v).toArray();
        return r.price;
    }

    int never(int day) {
        if (!isDay(day)) {
            return -1;
        }
        Map<String, Place> met = states(at, these(day), 255, -1);
        if (met == null) {
            return -3;
        }
        int bits = bitsOf(these(day));
        for (Place s : met.values()) {
            bits &= ~paidOf(s, these(day));
        }
        return bits;
    }

    long ways(int day) {
        if (!isDay(day)) {
            return -1;
        }
        if (states(at, these(day), 255, -1) == null) {
            return -3;
        }
        Rest r = rest(at, these(day), new HashMap<>());
        if (r.ways > 0) {
            tell((1 << at.people.size()) - 1 & ~r.users);
        }
        return r.ways;
    }

    private static boolean canBePaid(Map<String, Place> met, int debt) {
        for (Place s : met.values()) {
            for (int i = 0; i < s.people.size(); i++) {
                if (s.may(i, s.debts.get(debt))) {
                    return true;
                }
            }
        }
        return false;
    }

    int ahead(int debt, int day) {
        if (!isDay(day) || !isDebt(debt)) {
            return -1;
        }
        Map<String, Place> met = states(at, these(day), 255, -1);
        if (met == null) {
            return -3;
        }
        if (!these(day).contains(debt) || !canBePaid(met, debt)) {
            return -2;
        }
        int bits = 0;
        for (int d : these(day)) {
            if (d != debt && !canBePaid(states(at, these(day), 255, d), debt)) {
                bits |= 1 << d;
            }
        }
        return bits;
    }

    int fewest(int day) {
        if (!isDay(day)) {
            return -1;
        }
        if (states(at, these(day), 255, -1) == null) {
            return -3;
        }
        int best = -1;
        for (int set = 0; set < 1 << at.people.size(); set++) {
            if (best >= 0 && Integer.bitCount(set) >= Integer.bitCount(best)) {
                continue;
            }
            for (Place s : states(at, these(day), set, -1).values()) {
                best = paidOf(s, these(day)) == bitsOf(these(day)) ? set : best;
            }
        }
        if (best < 0) {
            return -2;
        }
        tell(best);
        return Integer.bitCount(best);
    }

    int sorts(int day) {
        if (!isDay(day)) {
            return -1;
        }
        long[] had = row;
        int law = at.law[0];
        long[] mosts = new long[4];
        for (int sort = 0; sort < 4; sort++) {
            at.law[0] = sort;
            mosts[sort] = most(day);
        }
        at.law[0] = law;
        row = had;
        if (Arrays.stream(mosts).min().getAsLong() == -3) {
            return -3;
        }
        row = mosts;
        long most = Arrays.stream(mosts).max().getAsLong();
        return mosts[0] == most ? 0 : mosts[1] == most ? 1 : mosts[2] == most ? 2 : 3;
    }

    // ---- at noon, in parts

    /** One more path from the source to the sink of what is left to flow, till there is none. */
    private int flowOf(int day) {
        int n = at.people.size();
        int m = at.debts.size();
        int[][] left = new int[n + m + 2][n + m + 2];
        for (int i = 0; i < n; i++) {
            left[n + m][i] = at.people.get(i).counted();
        }
        for (int d : these(day)) {
            left[n + d][n + m + 1] = at.debts.get(d).sum;
            for (int i = 0; i < n; i++) {
                left[i][n + d] = at.part(i, at.debts.get(d)) ? 1000000 : 0;
            }
        }
        int flow = 0;
        while (true) {
            int more = push(left, n + m, n + m + 1, 1000000, new boolean[n + m + 2]);
            if (more == 0) {
                return flow;
            }
            flow += more;
        }
    }

    private static int push(int[][] left, int from, int to, int most, boolean[] met) {
        if (from == to) {
            return most;
        }
        met[from] = true;
        for (int i = 0; i < left.length; i++) {
            if (!met[i] && left[from][i] > 0) {
                int pushed = push(left, i, to, Math.min(most, left[from][i]), met);
                if (pushed > 0) {
                    left[from][i] -= pushed;
                    left[i][from] += pushed;
                    return pushed;
                }
            }
        }
        return 0;
    }

    int flow(int day) {
        if (!isDay(day)) {
            return -1;
        }
        int bits = 0;
        for (int d : these(day)) {
            int sum = 0;
            for (int i = 0; i < at.people.size(); i++) {
                sum += at.part(i, at.debts.get(d)) ? at.people.get(i).counted() : 0;
            }
            bits |= sum < at.debts.get(d).sum ? 1 << d : 0;
        }
        tell(bits);
        return flowOf(day);
    }

    int proof(int day) {
        if (!isDay(day)) {
            return -1;
        }
        int flow = flowOf(day);
        for (int set = 0; set < 256; set++) {
            int sum = 0;
            int sums = 0;
            int debts = 0;
            for (int i = 0; i < at.people.size(); i++) {
                sum += (set >> i & 1) == 1 ? at.people.get(i).counted() : 0;
            }
            for (int d : these(day)) {
                boolean else1 = false;
                for (int i = 0; i < at.people.size(); i++) {
                    else1 |= (set >> i & 1) == 0 && at.part(i, at.debts.get(d));
                }
                debts |= else1 ? 1 << d : 0;
                sums += else1 ? at.debts.get(d).sum : 0;
            }
            if (sum + sums == flow) {
                tell(sums, debts);
                return set;
            }
        }
        throw new AssertionError();
    }

    int gap(int sort, int day) {
        if (!isDay(day) || sort < 0 || sort > 3) {
            return -1;
        }
        int law = at.law[0];
        int now = flowOf(day);
        at.law[0] = sort;
        int then = flowOf(day);
        at.law[0] = law;
        return then - now;
    }

    // ---- days

    int lowest() {
        if (at.people.isEmpty()) {
            return -2;
        }
        int least = Integer.MAX_VALUE;
        for (int i = 0; i < at.people.size(); i++) {
            least = Math.min(least, at.listed(i));
        }
        int bits = 0;
        int debts = 0;
        for (int i = 0; i < at.people.size(); i++) {
            bits |= at.listed(i) == least ? 1 << i : 0;
        }
        for (int d = 0; d < at.debts.size(); d++) {
            Debt e = at.debts.get(d);
            debts |= e.state == 0 && (bits >> e.owes & 1) == 1 ? 1 << d : 0;
        }
        tell(bits, debts);
        return Integer.numberOfTrailingZeros(bits);
    }

    /** PAYMENTS, PRICES, SUMS PAID, LAPSED (bits) of so many DAYS. */
    private int[] pass(Place in, int n) {
        int[] sums = new int[4];
        for (int k = 0; k < n; k++) {
            in.noon();
            for (int due = 0; due <= Math.min(99, in.today); due++) {
                for (int i = 0; i < in.debts.size(); i++) {
                    Debt d = in.debts.get(i);
                    if (d.state != 0 || d.due != due) {
                        continue;
                    }
                    int who = willingOne(in, d);
                    if (who >= 0) {
                        sums[0]++;
                        sums[1] += in.pay(who, d);
                        sums[2] += d.sum;
                    } else if (in.today - in.law[3] >= d.due) {
                        d.state = 2;
                        sums[3] |= 1 << i;
                    }
                }
            }
            in.today++;
        }
        return sums;
    }

    int lapse(int n) {
        if (n < 0 || n > 60) {
            return -1;
        }
        int bits = pass(at.copy(), n)[3];
        tell(0);
        for (int i = 0; i < at.debts.size(); i++) {
            row[0] += (bits >> i & 1) == 1 ? at.debts.get(i).sum : 0;
        }
        return bits;
    }

    int days(int n) {
        if (n < 0 || n > 60) {
            return -1;
        }
        undo.clear();
        int[] sums = pass(at, n);
        tell(sums[1], Integer.bitCount(sums[3]));
        return sums[0];
    }

    int best(int n) {
        if (n < 0 || n > 60) {
            return -1;
        }
        tell(0, 0, 0, 0);
        int best = 0;
        for (int sort = 0; sort < 4; sort++) {
            Place c = at.copy();
            c.law[0] = sort;
            row[sort] = pass(c, n)[2];
            best = row[sort] > row[best] ? sort : best;
        }
        return best;
    }

    int pays(int person, int v, int n) {
        if (!isOne(person) || v < 0 || v > at.people.get(person).coin || n < 0 || n > 60) {
            throw new NoSuchElementException();
        }
        int[] has = new int[2];
        for (int k = 0; k < 2; k++) {
            Place c = at.copy();
            c.people.get(person).hidden = k == 0 ? 0 : v;
            pass(c, n);
            has[k] = c.people.get(person).coin + c.favoursOwedTo(person);
        }
        return has[1] - has[0];
    }

    int spread() {
        long all = at.people.stream().mapToLong(p -> p.coin).sum();
        if (all == 0) {
            return -2;
        }
        long up = 0;
        for (Person p : at.people) {
            for (Person q : at.people) {
                up += p.coin > q.coin ? p.coin - q.coin : 0;
            }
        }
        long down = at.people.size() * all;
        long shared = java.math.BigInteger.valueOf(up).gcd(java.math.BigInteger.valueOf(down)).longValue();
        tell(up / shared, down / shared, at.people.stream().mapToInt(p -> p.coin).max().getAsInt(),
            at.people.stream().mapToInt(p -> p.coin).min().getAsInt());
        return 0;
    }

    // ---- kept

    int seed(int v) {
        int was = at.r;
        at.r = v;
        return was;
    }

    boolean keep(int i) {
        if (i < 0 || i > 1) {
            return false;
        }
        kept[i] = at.copy();
        return true;
    }

    boolean again(int i) {
        if (i < 0 || i > 1 || kept[i] == null || kept[i].people.size() != at.people.size()
            || kept[i].debts.size() != at.debts.size()) {
            return false;
        }
        at = kept[i].copy();
        undo.clear();
        return true;
    }

    int count(int what) {
        int open = 0;
        for (int i = 0; i < at.debts.size(); i++) {
            open |= at.debts.get(i).state == 0 ? 1 << i : 0;
        }
        int[] all = {at.people.size(), at.debts.size(), open, undo.size(), at.lent.size(),
            at.people.stream().mapToInt(p -> p.coin).sum(), row.length, text.length()};
        return what >= 0 && what < 8 ? all[what] : -1;
    }
}
