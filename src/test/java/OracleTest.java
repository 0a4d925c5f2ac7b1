import java.util.NoSuchElementException;
import java.util.Random;

/** Random runs of calls, each answer, and all that can be asked, held against the Oracle's. Always the same runs. */
public final class OracleTest {
    private static int wrong;
    private static long calls;
    private static final int[] CALLS = new int[48];
    private static int tooMany;
    private static int many;

    private final Random random;
    private final PaidByPoorer x = new PaidByPoorer();
    private final Oracle o = new Oracle();
    private final StringBuilder told = new StringBuilder();
    private final boolean isLarge;
    private final boolean isCut;
    private int made;

    private OracleTest(long run) {
        random = new Random(run * 7919 + 3);
        isLarge = run % 17 == 0;
        isCut = run % 11 == 5;
    }

    public static void main(String[] args) {
        int runs = args.length > 1 ? Integer.parseInt(args[1]) : 3000;
        for (int run = 0; run < runs && wrong < 5; run++) {
            new OracleTest(run).run();
        }
        StringBuilder counts = new StringBuilder();
        for (int i = 0; i < CALLS.length; i++) {
            counts.append(' ').append(CALLS[i]);
        }
        System.out.println("OracleTest: " + calls + " calls, " + wrong + " wrong; over 300 states " + many + ", too many "
            + tooMany + "; answers not refused of each:" + counts);
        if (wrong > 0) {
            System.exit(1);
        }
    }

    private int upTo(int n) {
        return random.nextInt(n + 1);
    }

    private boolean chance(int of100) {
        return random.nextInt(100) < of100;
    }

    /** PRICES that are cut differ for one and the same state: ties and the least row are hard there. */
    private void cutPrices() {
        StringBuilder b = new StringBuilder("99,0;0,0");
        int payers = 2 + upTo(1);
        for (int i = 0; i < payers; i++) {
            b.append(";").append(3 + upTo(5)).append(",").append(10 + upTo(50));
        }
        due(4, told(b), x.town(), o.town());
        b.setLength(0);
        for (int i = 4 + upTo(3); i > 0; i--) {
            b.append(b.length() > 0 ? ";" : "").append("d0>1*").append(1 + upTo(2)).append("@0");
        }
        due(4, told(b), x.town(), o.town());
        due(27, "all(0)", x.all(0), o.all(0));
        checkRow();
        due(29, "ways(0)", x.ways(0), o.ways(0));
        due(31, "fewest(0)", x.fewest(0), o.fewest(0));
        checkRow();
    }

    private void run() {
        if (isCut) {
            cutPrices();
            return;
        }
        town(isLarge ? 5 + upTo(3) : 1 + upTo(5), isLarge ? 5 + upTo(5) : 0, isLarge);
        town(0, isLarge ? 0 : 1 + upTo(5), false);
        if (isLarge) {
            int sort = random.nextInt(4);
            x.law(0, sort);
            o.law(0, sort);
        }
        made = 0;
        while (made < 40 && wrong < 5) {
            one();
            checkRow();
            if (chance(10)) {
                checkAll();
            }
        }
        checkAll();
    }

    private void due(int promise, String call, long got, long want) {
        calls++;
        made++;
        told.append(call).append(" = ").append(got).append("; ");
        if (want >= 0 || want == -2 || want == -3) {
            CALLS[promise]++;
        }
        if (got != want) {
            wrong++;
            System.out.println("behind " + told + "\n  " + call + " answered " + got + ", the oracle " + want);
        }
    }

    private void due(int promise, String call, boolean got, boolean want) {
        due(promise, call, got ? 1 : 0, want ? 1 : 0);
        CALLS[promise] -= want ? 0 : 1;
    }

    private interface Call {
        long made();
    }

    private static long thrown(Call call) {
        try {
            return call.made();
        } catch (NoSuchElementException e) {
            return -777;
        }
    }

    private void checkRow() {
        if (x.count(6) != o.row.length) {
            due(47, "count(6)", x.count(6), o.row.length);
            return;
        }
        for (int i = 0; i < o.row.length; i++) {
            if (x.row(i) != o.row[i]) {
                due(47, "row(" + i + ")", x.row(i), o.row[i]);
            }
        }
    }

    private void checkAll() {
        for (int what = -1; what < 9; what++) {
            due(46, "count(" + what + ")", x.count(what), o.count(what));
        }
        for (int i = 0; i < o.at.people.size(); i++) {
            for (int what = 0; what < 9; what++) {
                int person = i;
                int asked = what;
                due(6, "of(" + i + ", " + what + ")", thrown(() -> x.of(person, asked)), thrown(() -> o.of(person, asked)));
                due(19, "favour", x.favour(i, what), o.favour(i, what));
            }
        }
        for (int i = 0; i < o.at.debts.size(); i++) {
            for (int what = 0; what < 6; what++) {
                int debt = i;
                int asked = what;
                due(7, "debt(" + i + ", " + what + ")", thrown(() -> x.debt(debt, asked)), thrown(() -> o.debt(debt, asked)));
            }
        }
        due(42, "today()", x.today(), o.at.today);
        made = Math.max(0, made - 10 - 18 * o.at.people.size() - 6 * o.at.debts.size());
    }

    // ---- texts

    private void tell(String text) {
        if (chance(96)) {
            x.end(0);
            o.end(0);
        }
        for (int i = 0; i < text.length(); i += 4) {
            int four = 0;
            for (int k = 0; k < 4; k++) {
                four = four << 8 | (i + k < text.length() ? text.charAt(i + k) & 255 : 0);
            }
            due(2, "sign(" + four + ")", x.sign(four), o.sign(four));
        }
        int n = o.text.length() - (3 - (text.length() + 3) % 4);
        due(3, "end(" + n + ")", x.end(n), o.end(n));
    }

    private String number(int most, int digits) {
        String s = "" + upTo(most);
        return chance(8) && s.length() < digits ? "0" + s : s;
    }

    private String person() {
        int coin = chance(15) ? 999 : chance(30) ? 300 : chance(50) ? 60 : 9;
        return number(coin, 3) + "," + number(99, 2) + (chance(15) ? "!" : "");
    }

    private String debt(int people, boolean isSmall) {
        int from = upTo(people - 1);
        int to = (from + 1 + upTo(Math.max(0, people - 2))) % people;
        int sum = isSmall ? 1 + upTo(8) : chance(50) ? 1 + upTo(8) : 1 + upTo(98);
        int due = isSmall ? 0 : chance(60) ? upTo(2) : chance(80) ? upTo(8) : upTo(99);
        return "d" + from + ">" + to + "*" + (chance(5) && sum < 10 ? "0" : "") + sum + "@" + due;
    }

    private void town(int people, int debts, boolean isSmall) {
        StringBuilder b = new StringBuilder();
        int there = o.at.people.size();
        for (int i = 0; i < people; i++) {
            b.append(b.length() > 0 ? ";" : "").append(isSmall ? upTo(40) + "," + upTo(60) + (chance(20) ? "!" : "") : person());
        }
        for (int i = 0; i < debts && there + people > 1; i++) {
            b.append(b.length() > 0 ? ";" : "").append(debt(there + people, isSmall));
            if (b.length() > 60) {
                due(4, told(b), x.town(), o.town());
                b.setLength(0);
                there += people;
                people = 0;
            }
        }
        due(4, told(b), x.town(), o.town());
    }

    private String told(StringBuilder b) {
        tell(b.length() > 80 ? b.substring(0, 80) : b.toString());
        return "town() of " + b;
    }

    private String spoilt(String text, String signs) {
        StringBuilder b = new StringBuilder(text);
        for (int i = upTo(2); i >= 0; i--) {
            int p = upTo(b.length());
            char s = signs.charAt(upTo(signs.length() - 1));
            int what = upTo(3);
            if (what == 0) {
                b.insert(p, s);
            } else if (p < b.length() && what == 1) {
                b.deleteCharAt(p);
            } else if (p < b.length() && what == 2) {
                b.setCharAt(p, s);
            } else {
                b.setLength(p);
            }
        }
        return b.toString();
    }

    private void wrongTown() {
        StringBuilder b = new StringBuilder();
        int lines = 1 + upTo(chance(20) ? 12 : 3);
        int people = Math.max(2, o.at.people.size());
        for (int i = 0; i < lines; i++) {
            b.append(i > 0 ? ";" : "").append(chance(50) ? person() : debt(people, false));
        }
        String text = spoilt(b.toString(), "0123456789d>*@,!;0x0");
        tell(text.length() > 80 ? text.substring(0, 80) : text);
        due(4, "town() of " + text, x.town(), o.town());
    }

    private String expression(int depth) {
        int what = upTo(9);
        if (depth > 3 || what < 4) {
            return chance(70) ? "" + "icaspfog".charAt(upTo(7)) : "" + upTo(chance(70) ? 9 : 999);
        }
        if (what < 5) {
            return "-" + expression(depth + 1);
        }
        if (what < 7) {
            return "(" + expression(depth + 1) + (chance(40) ? "<>=".charAt(upTo(2)) + expression(depth + 1) : "") + ")";
        }
        return expression(depth + 1) + "+-*/".charAt(upTo(3)) + expression(depth + 1);
    }

    private void rule(boolean isSpoilt) {
        String text = expression(0);
        if (chance(15)) {
            text = text + "<>=".charAt(upTo(2)) + expression(1);
        }
        if (chance(10)) {
            text = "((((" + text + "))))";
        }
        if (chance(10)) {
            text = text + "+" + expression(0) + "*" + expression(0) + "-" + expression(0);
        }
        if (isSpoilt) {
            text = spoilt(text, "icaspfog0123456789()()+-*/<>=-x(");
        }
        text = text.length() > 80 ? text.substring(0, 80) : chance(3) ? "" : text;
        tell(text);
        due(5, "rule() of " + text, x.rule(), o.rule());
    }

    // ---- one call

    private int who() {
        return chance(4) ? upTo(12) - 2 : upTo(Math.max(0, o.at.people.size() - 1));
    }

    private int what() {
        return chance(4) ? upTo(14) - 2 : upTo(Math.max(0, o.at.debts.size() - 1));
    }

    private int day() {
        return chance(4) ? 110 * upTo(1) - 1 : chance(30) ? upTo(3) : chance(50) ? 99 : upTo(99);
    }

    private int span() {
        return chance(4) ? 62 * upTo(1) - 1 : chance(80) ? upTo(9) : upTo(60);
    }

    private void one() {
        int kind = isLarge && chance(80) ? 60 + upTo(19) : upTo(99);
        if (kind < 34) {
            state(upTo(13));
        } else if (kind < 60) {
            payment(upTo(9));
        } else if (kind < 80) {
            rows(upTo(9));
        } else {
            days(upTo(9));
        }
    }

    private void state(int call) {
        int a = who();
        int b = chance(70) ? upTo(30) : upTo(1001) - 1;
        switch (call) {
            case 0:
                wrongTown();
                break;
            case 1:
                rule(chance(40));
                break;
            case 2:
                if (chance(25)) {
                    town(upTo(1), upTo(1), false);
                }
                break;
            case 3:
                int what = chance(5) ? upTo(6) - 1 : upTo(3);
                int v = what == 0 ? upTo(3) : what == 2 ? upTo(1) : chance(80) ? upTo(10) : upTo(102) - 1;
                v = chance(5) ? upTo(110) - 5 : v;
                due(8, "law(" + what + ", " + v + ")", x.law(what, v), o.law(what, v));
                break;
            case 4:
                int k = chance(10) ? upTo(6) - 1 : upTo(2);
                int n = chance(85) ? o.at.people.size() : upTo(12) - 2;
                int f = chance(80) ? upTo(99) : random.nextInt();
                int step = chance(80) ? upTo(60) - 20 : random.nextInt();
                due(9, "sheet(" + k + ", " + n + ", " + f + ", " + step + ")", x.sheet(k, n, f, step), o.sheet(k, n, f, step));
                break;
            case 5:
                due(10, "noon()", x.noon(), o.noon());
                break;
            case 6:
                due(11, "hide(" + a + ", " + b + ")", x.hide(a, b), o.hide(a, b));
                break;
            case 7:
                int c = chance(90) ? upTo(10) : upTo(16) - 2;
                due(12, "search(" + a + ", " + c + ")", x.search(a, c), o.search(a, c));
                break;
            case 8:
                int seed = random.nextInt();
                due(43, "seed(" + seed + ")", x.seed(seed), o.seed(seed));
                break;
            case 9:
            case 10:
                int i = chance(90) ? upTo(1) : upTo(4) - 1;
                due(44, "keep(" + i + ")", x.keep(i), o.keep(i));
                break;
            case 11:
                int under = chance(90) ? upTo(1) : upTo(4) - 1;
                due(45, "again(" + under + ")", x.again(under), o.again(under));
                break;
            default:
                int asked = chance(90) ? upTo(8) : upTo(12) - 2;
                due(6, "of(" + a + ", " + asked + ")", thrown(() -> x.of(a, asked)), thrown(() -> o.of(a, asked)));
                int debt = what();
                due(7, "debt(" + debt + ", " + asked + ")", thrown(() -> x.debt(debt, asked)), thrown(() -> o.debt(debt, asked)));
                due(47, "row(" + asked + ")", thrown(() -> x.row(asked)),
                    asked >= 0 && asked < o.row.length ? o.row[asked] : -777);
                break;
        }
    }

    private void payment(int call) {
        int a = who();
        int b = who();
        int d = what();
        int coin = chance(80) ? upTo(9) : upTo(1000) - 1;
        switch (call) {
            case 0:
                due(13, "below(" + a + ")", x.below(a), o.below(a));
                break;
            case 1:
                due(14, "may(" + d + ")", x.may(d), o.may(d));
                due(15, "willing(" + d + ")", x.willing(d), o.willing(d));
                break;
            case 2:
            case 3:
                int who = x.willing(d);
                o.willing(d);
                who = who < 0 || chance(20) ? a : who;
                due(16, "pay(" + who + ", " + d + ")", x.pay(who, d), o.pay(who, d));
                break;
            case 4:
                for (int i = 0; i < o.at.debts.size(); i++) {
                    int one = x.willing(i);
                    o.willing(i);
                    due(16, "pay(" + one + ", " + i + ")", x.pay(one, i), o.pay(one, i));
                }
                for (int i = upTo(5); i > 0; i--) {
                    due(17, "undo()", x.undo(), o.undo());
                }
                break;
            case 5:
                int n = chance(95) ? upTo(4) : upTo(9) - 2;
                int told = 0;
                for (int i = 0; i < 4; i++) {
                    told = told << 8 | (what() & 15) << 4 | who() & 15;
                }
                due(18, "judge(" + n + ", " + told + ")", x.judge(n, told), o.judge(n, told));
                break;
            case 6:
                due(20, "nets()", x.nets(), o.nets());
                break;
            case 7:
                due(21, "give(" + a + ", " + b + ", " + coin + ")", x.give(a, b, coin), o.give(a, b, coin));
                break;
            case 8:
                for (int i = upTo(1); i >= 0; i--) {
                    due(22, "lend(" + a + ", " + b + ", " + coin + ")", x.lend(a, b, coin), o.lend(a, b, coin));
                }
                for (int i = upTo(2); i > 0; i--) {
                    due(23, "back()", x.back(), o.back());
                }
                break;
            default:
                due(24, "gift(" + d + ")", x.gift(d), o.gift(d));
                due(25, "poorer(" + a + ", " + d + ")", x.poorer(a, d), o.poorer(a, d));
                break;
        }
    }

    private void rows(int call) {
        int day = day();
        int d = what();
        switch (call) {
            case 0:
                due(26, "most(" + day + ")", x.most(day), o.most(day));
                tooMany += x.most(day) == -3 ? 1 : 0;
                many += x.most(day) >= 0 && x.row(1) > 300 ? 1 : 0;
                break;
            case 1:
                due(27, "all(" + day + ")", x.all(day), o.all(day));
                break;
            case 2:
                due(28, "never(" + day + ")", x.never(day), o.never(day));
                break;
            case 3:
                due(29, "ways(" + day + ")", x.ways(day), o.ways(day));
                break;
            case 4:
                if (!isLarge || chance(20)) {
                    due(30, "ahead(" + d + ", " + day + ")", x.ahead(d, day), o.ahead(d, day));
                }
                break;
            case 5:
                if (!isLarge || chance(5)) {
                    due(31, "fewest(" + day + ")", x.fewest(day), o.fewest(day));
                }
                break;
            case 6:
                due(32, "sorts(" + day + ")", x.sorts(day), o.sorts(day));
                break;
            case 7:
                due(33, "flow(" + day + ")", x.flow(day), o.flow(day));
                break;
            case 8:
                due(34, "proof(" + day + ")", x.proof(day), o.proof(day));
                break;
            default:
                int sort = chance(90) ? upTo(3) : upTo(7) - 2;
                due(35, "gap(" + sort + ", " + day + ")", x.gap(sort, day), o.gap(sort, day));
                break;
        }
    }

    private void days(int call) {
        int n = span();
        int a = who();
        switch (call) {
            case 0:
                due(36, "lowest()", x.lowest(), o.lowest());
                break;
            case 1:
            case 2:
                due(37, "lapse(" + n + ")", x.lapse(n), o.lapse(n));
                break;
            case 3:
                int few = chance(80) ? upTo(2) : n;
                due(38, "days(" + few + ")", x.days(few), o.days(few));
                break;
            case 4:
            case 5:
                due(39, "best(" + n + ")", x.best(n), o.best(n));
                break;
            case 6:
            case 7:
                int v = chance(80) && a >= 0 && a < o.at.people.size() ? upTo(o.at.people.get(a).coin) : upTo(1001) - 1;
                due(40, "pays(" + a + ", " + v + ", " + n + ")", thrown(() -> x.pays(a, v, n)), thrown(() -> o.pays(a, v, n)));
                break;
            default:
                due(41, "spread()", x.spread(), o.spread());
                break;
        }
    }
}
