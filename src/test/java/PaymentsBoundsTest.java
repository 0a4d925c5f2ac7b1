/** A test of its own for each sentence of the Terms and of promises 6 to 25 that names a boundary case. */
public final class PaymentsBoundsTest {
    private static final String FIVE = "30,0;40,10;50,20!;60,0;20,50;d3>0*20@5;d0>4*25@0";

    private final Check c = new Check("PaymentsBoundsTest");

    public static void main(String[] args) {
        PaymentsBoundsTest test = new PaymentsBoundsTest();
        test.asking();
        test.sheets();
        test.noonAndHiding();
        test.searching();
        test.belows();
        test.paying();
        test.undoing();
        test.judging();
        test.favours();
        test.giving();
        test.gifts();
        test.poorer();
        test.c.finish();
    }

    // ---- promises 6 to 8

    private void asking() {
        ofNone();
        owedAndOwing();
        debtNone();
        lawRefused();
    }

    private void owedAndOwing() {
        c.says("5: SUMS of OPEN DEBTS it owes, 6: of those it is owed, 7: FAVOURS it owes, 8: FAVOURS it is owed");
        c.fresh("50,0;40,10;30,0;0,0;d0>3*10@0;d0>3*5@0;d2>0*1@0;d1>0*2@0;d1>3*4@0");
        c.due("0 owes", c.x.of(0, 5), 15);
        c.due("3 is owed", c.x.of(3, 6), 19);
        c.due("0 is owed", c.x.of(0, 6), 3);
        c.due("3 owes", c.x.of(3, 5), 0);
        c.due("pay", c.x.pay(1, 0), 11);
        c.due("0 owes those OPEN", c.x.of(0, 5), 5);
        c.due("3 is owed those OPEN", c.x.of(3, 6), 9);
        c.due("pay", c.x.pay(2, 1), 5);
        c.due("0 owes FAVOURS", c.x.of(0, 7), 16);
        c.due("1 is owed FAVOURS", c.x.of(1, 8), 11);
        c.due("2 is owed FAVOURS", c.x.of(2, 8), 5);
        c.due("1 owes none", c.x.of(1, 7), 0);
        c.x.law(0, 2);
        c.due("0 has more", c.x.pay(0, 4), 4);
        c.due("1 owes 0", c.x.of(1, 7), 4);
        c.due("0 is owed FAVOURS", c.x.of(0, 8), 4);
        c.due("1 owes the one OPEN", c.x.of(1, 5), 2);
        c.rule("0-1");
        c.x.days(1);
        c.due("LAPSED", c.x.count(2), 0);
        c.due("none OPEN", c.x.of(1, 5) + c.x.of(3, 6) + c.x.of(0, 6) + c.x.of(2, 5), 0);
    }

    private void ofNone() {
        c.says("8: FAVOURS it is owed. NoSuchElementException: none such, another what.");
        c.fresh("1,0;2,0");
        for (int what = 0; what < 9; what++) {
            int asked = what;
            c.due("of the last", c.x.of(1, what), what == 0 || what == 4 ? 2 : 0);
            c.none("of a third", () -> c.x.of(2, asked));
            c.none("of -1", () -> c.x.of(-1, asked));
        }
        c.none("what 9", () -> c.x.of(0, 9));
        c.none("what -1", () -> c.x.of(0, -1));
        c.none("the most", () -> c.x.of(Integer.MAX_VALUE, Integer.MAX_VALUE));
        c.none("the least", () -> c.x.of(Integer.MIN_VALUE, Integer.MIN_VALUE));
    }

    private void debtNone() {
        c.says("5: who paid it (NONE). NoSuchElementException: none such, another what.");
        c.fresh("1,0;2,0;d1>0*3@4");
        int[] want = {1, 0, 3, 4, 0, -1};
        for (int what = 0; what < 6; what++) {
            int asked = what;
            c.due("of the last", c.x.debt(0, what), want[what]);
            c.none("of a second", () -> c.x.debt(1, asked));
            c.none("of -1", () -> c.x.debt(-1, asked));
        }
        c.none("what 6", () -> c.x.debt(0, 6));
        c.none("what -1", () -> c.x.debt(0, -1));
        c.x.days(5);
        c.due("LAPSED", c.x.debt(0, 4), 2);
        c.due("paid by none", c.x.debt(0, 5), -1);
    }

    private void lawRefused() {
        c.says("THE LAW: what becomes v: what it was. Refused: others.");
        int[] greatest = {3, 99, 1, 99};
        for (int what = 0; what < 4; what++) {
            c.x.law(what, greatest[what]);
            c.due("more", c.x.law(what, greatest[what] + 1), -1);
            c.due("the most", c.x.law(what, Integer.MAX_VALUE), -1);
            c.due("below 0", c.x.law(what, -1), -1);
            c.due("the least", c.x.law(what, Integer.MIN_VALUE), -1);
            c.due("refused ones leave it", c.x.law(what, greatest[what]), greatest[what]);
        }
        c.due("what -1", c.x.law(-1, 0), -1);
        c.due("what 4", c.x.law(4, 0), -1);
        c.due("0 is not refused", c.x.law(0, 0), 3);
        c.due("it was 0", c.x.law(0, 2), 0);
    }

    // ---- promise 9

    private void sheets() {
        sheetLowestBits();
        sheetPut();
        sheetOfInts();
        sheetBehind();
        sheetHidden();
        sheetBelowNone();
        sheetMissing();
        sheetNone();
    }

    private void coins(String what, int... want) {
        for (int i = 0; i < want.length; i++) {
            c.due(what + ": COIN of " + i, c.x.of(i, 0), want[i]);
        }
    }

    private void sheetLowestBits() {
        c.says("(of bytes, shorts the lowest bits, with their sign; put to 0 .. 999)");
        c.fresh("1,0;1,0;1,0;1,0");
        c.due("127, 128, 129", c.x.sheet(0, 3, 127, 1), 127);
        coins("bytes", 127, 0, 0, 0);
        c.due("-1, 0, 1", c.x.sheet(0, 3, 255, 1), 1);
        coins("bytes", 0, 0, 1, 0);
        c.due("256 + 5, 512 + 6", c.x.sheet(0, 2, 261, 257), 11);
        coins("bytes", 5, 6, 0, 0);
        c.due("32767, 32768", c.x.sheet(1, 2, 32767, 1), 999);
        coins("shorts", 999, 0, 0, 0);
        c.due("65535, 65536, 65537", c.x.sheet(1, 3, 65535, 1), 1);
        coins("shorts", 0, 0, 1, 0);
        c.due("65536 + 500", c.x.sheet(1, 1, 66036, 0), 500);
        c.due("255, 256 of shorts", c.x.sheet(1, 2, 255, 1), 511);
    }

    private void sheetPut() {
        c.says("put to 0 .. 999");
        c.fresh("1,0;1,0;1,0;1,0");
        c.due("998, 999, 1000, 1001", c.x.sheet(2, 4, 998, 1), 3995);
        coins("ints", 998, 999, 999, 999);
        c.due("-2, -1, 0, 1", c.x.sheet(2, 4, -2, 1), 1);
        coins("ints", 0, 0, 0, 1);
        c.due("1000 as a short", c.x.sheet(1, 1, 1000, 0), 999);
        c.due("-1000 as a short", c.x.sheet(1, 1, -1000, 0), 0);
    }

    private void sheetOfInts() {
        c.says("of n entries f, f + step, ..");
        c.fresh("1,0;1,0;1,0");
        c.due("the most, then the least", c.x.sheet(2, 2, Integer.MAX_VALUE, 1), 999);
        coins("ints", 999, 0, 0);
        c.due("the least, then the most", c.x.sheet(2, 2, Integer.MIN_VALUE, -1), 999);
        coins("ints", 0, 999, 0);
        c.due("a step that goes round", c.x.sheet(2, 3, 7, Integer.MIN_VALUE), 14);
        coins("ints", 7, 0, 7);
        c.due("65536 is 999", c.x.sheet(2, 1, 65536, 0), 999);
        c.due("a step of 0", c.x.sheet(2, 3, 4, 0), 12);
        c.due("downwards", c.x.sheet(2, 3, 4, -3), 5);
    }

    private void sheetBehind() {
        c.says("those behind it have 0: the sum of all");
        c.fresh("1,0;1,0;1,0");
        c.due("two of three", c.x.sheet(2, 2, 5, 1), 11);
        coins("two", 5, 6, 0);
        c.due("none of three", c.x.sheet(2, 0, 5, 1), 0);
        coins("none", 0, 0, 0);
        c.due("just three", c.x.sheet(2, 3, 5, 1), 18);
        c.due("eight for three", c.x.sheet(2, 8, 5, 1), 18);
        c.fresh();
        c.due("for nobody", c.x.sheet(2, 8, 5, 1), 0);
    }

    private void sheetHidden() {
        c.says("nothing is HIDDEN then");
        c.fresh("10,0;10,0");
        c.x.hide(0, 4);
        c.x.hide(1, 5);
        c.due("one of two", c.x.sheet(2, 1, 20, 0), 20);
        c.due("nothing", c.x.of(0, 3) + c.x.of(1, 3), 0);
    }

    private void sheetBelowNone() {
        c.says("-2: n below 0 (of kinds 0 .. 2; nothing changes)");
        for (int kind = 0; kind < 3; kind++) {
            int asked = kind;
            c.fresh(FIVE);
            c.x.hide(0, 4);
            c.x.pay(4, 0);
            c.changesNothing("n -1", () -> c.x.sheet(asked, -1, 5, 5), -2);
            c.due("the least", c.x.sheet(kind, Integer.MIN_VALUE, 5, 5), -2);
            c.due("what can be undone", c.x.undo(), 0);
        }
    }

    private void sheetMissing() {
        c.says("-3: missing (all 0, nothing HIDDEN)");
        for (int n : new int[] {Integer.MIN_VALUE, -1, 0, 1, 8}) {
            c.fresh("10,0;20,0");
            c.x.hide(1, 5);
            c.due("missing, n " + n, c.x.sheet(3, n, 7, 7), -3);
            coins("missing", 0, 0);
            c.due("nothing HIDDEN", c.x.of(1, 3), 0);
        }
    }

    private void sheetNone() {
        c.says("NONE: another kind, n above 8 (these first).");
        c.fresh("10,0;20,0;d1>0*3@0");
        c.x.hide(1, 5);
        c.changesNothing("kind 4", () -> c.x.sheet(4, 2, 7, 7), -1);
        for (int kind : new int[] {Integer.MIN_VALUE, -1, 4, Integer.MAX_VALUE}) {
            c.due("kind " + kind, c.x.sheet(kind, 2, 7, 7), -1);
            c.due("kind, n -1", c.x.sheet(kind, -1, 7, 7), -1);
            c.due("kind, n 9", c.x.sheet(kind, 9, 7, 7), -1);
        }
        for (int kind = 0; kind < 4; kind++) {
            c.due("n 9", c.x.sheet(kind, 9, 7, 7), -1);
            c.due("the most", c.x.sheet(kind, Integer.MAX_VALUE, 7, 7), -1);
        }
        coins("as they were", 10, 20);
        c.due("n 8", c.x.sheet(2, 8, 7, 7), 21);
    }

    // ---- promises 10 to 12

    private void noonAndHiding() {
        noonOfCounted();
        hideAll();
        hideRefused();
    }

    private void noonOfCounted() {
        c.says("THE LIST is as COUNTED is now: the sum of it.");
        c.due("of nobody", c.x.noon(), 0);
        c.fresh("10,0;20,0");
        c.x.hide(1, 20);
        c.due("of those who hide all", c.x.noon(), 10);
        c.x.law(2, 1);
        c.due("nothing of it", c.x.of(1, 4), 0);
        c.x.hide(1, 0);
        c.due("nothing of it yet", c.x.of(1, 4), 0);
        c.due("all", c.x.noon(), 30);
        c.due("all", c.x.of(1, 4), 20);
    }

    private void hideAll() {
        c.says("HIDDEN of one becomes v (0 .. its COIN): what it was.");
        c.fresh("10,0;0,0");
        c.due("all", c.x.hide(0, 10), 0);
        c.due("less", c.x.hide(0, 9), 10);
        c.due("nothing", c.x.hide(0, 0), 9);
        c.due("nothing again", c.x.hide(0, 0), 0);
        c.due("of nothing", c.x.hide(1, 0), 0);
    }

    private void hideRefused() {
        c.says("(0 .. its COIN): what it was. Refused: others.");
        c.fresh("10,0;0,0");
        c.x.hide(0, 3);
        c.due("more", c.x.hide(0, 11), -1);
        c.due("more of nothing", c.x.hide(1, 1), -1);
        c.due("below 0", c.x.hide(0, -1), -1);
        c.due("nobody", c.x.hide(2, 0), -1);
        c.due("nobody", c.x.hide(-1, 0), -1);
        c.due("the most", c.x.hide(0, Integer.MAX_VALUE), -1);
        c.due("the least", c.x.hide(0, Integer.MIN_VALUE), -1);
        c.due("as it was", c.x.of(0, 3), 3);
    }

    private void searching() {
        searchChance();
        searchGone();
        searchNone();
    }

    private void searchChance() {
        c.says("(0 .. 10; one DRAW of 10: found, if it is below c)");
        // R of 1 draws 8
        for (int chance = 0; chance <= 10; chance++) {
            c.fresh("10,0");
            c.x.hide(0, 4);
            c.due("chance " + chance, c.x.search(0, chance), chance > 8 ? 4 : 0);
            c.due("one DRAW", c.x.seed(0), 1103527590);
        }
    }

    private void searchGone() {
        c.says("what was HIDDEN, if it was found (it is gone from COIN, and nothing is HIDDEN), else 0");
        c.fresh("10,0;20,0");
        c.x.hide(0, 10);
        c.x.hide(1, 5);
        c.due("not found", c.x.search(0, 0), 0);
        coins("not found", 10, 20);
        c.due("HIDDEN", c.x.of(0, 3), 10);
        c.due("found", c.x.search(0, 10), 10);
        coins("found", 0, 20);
        c.due("nothing is HIDDEN", c.x.of(0, 3), 0);
        c.due("of the other one it is", c.x.of(1, 3), 5);
        c.due("nothing to find", c.x.search(0, 10), 0);
        c.x.hide(1, 0);
        c.due("nothing to find", c.x.search(1, 10), 0);
        coins("found", 0, 20);
    }

    private void searchNone() {
        c.says("NONE: others (no DRAW).");
        c.fresh("10,0;20,0");
        c.x.hide(0, 4);
        c.due("chance 11", c.x.search(0, 11), -1);
        c.due("chance -1", c.x.search(0, -1), -1);
        c.due("the most", c.x.search(0, Integer.MAX_VALUE), -1);
        c.due("the least", c.x.search(0, Integer.MIN_VALUE), -1);
        c.due("nobody", c.x.search(2, 5), -1);
        c.due("nobody", c.x.search(-1, 5), -1);
        c.due("no DRAW", c.x.seed(1), 1);
        c.due("HIDDEN", c.x.of(0, 3), 4);
    }

    // ---- promise 13, and who is BELOW whom

    private void belows() {
        belowLess();
        belowNextLess();
        belowMore();
        belowBy();
        belowNone();
    }

    private void below(String what, int... want) {
        for (int i = 0; i < want.length; i++) {
            c.due("below(" + i + ") " + what, c.x.below(i), want[i]);
        }
    }

    private void belowLess() {
        c.says("by THE LIST, sort 0: it has less");
        c.fresh("10,0;10,0;11,0;9,0");
        below("sort 0", 8, 8, 11, 0);
        c.fresh("5,0");
        below("one alone", 0);
    }

    private void belowNextLess() {
        c.says("1: it has less, and nobody has less than the other one and more than it");
        c.fresh("10,0;10,0;11,0;9,0;11,0");
        c.x.law(0, 1);
        below("sort 1", 8, 8, 3, 0, 3);
        c.fresh("9,0;10,0;8,0");
        c.x.law(0, 1);
        below("sort 1", 4, 1, 0);
        c.fresh("5,0");
        c.x.law(0, 1);
        below("one alone", 0);
    }

    private void belowMore() {
        c.says("2: it has more");
        c.fresh("10,0;10,0;11,0;9,0");
        c.x.law(0, 2);
        below("sort 2", 4, 4, 0, 7);
    }

    private void belowBy() {
        c.says("3: it has less by BY or more");
        c.fresh("10,0;10,0;12,0;9,0;13,0");
        c.x.law(0, 3);
        below("by 1", 8, 8, 11, 0, 15);
        c.x.law(1, 2);
        below("by 2", 0, 0, 11, 0, 11);
        c.x.law(1, 3);
        below("by 3", 0, 0, 8, 0, 11);
        c.x.law(1, 0);
        below("by 0: who has the same too, none itself", 10, 9, 11, 0, 15);
        c.fresh("99,0;0,0;100,0");
        c.x.law(0, 3);
        c.x.law(1, 99);
        below("by 99", 2, 0, 2);
    }

    private void belowNone() {
        c.says("PEOPLE (bits) who are BELOW one. NONE: none such.");
        c.due("nobody", c.x.below(0), -1);
        c.fresh("1,0;2,0;3,0;4,0;5,0;6,0;7,0;8,0");
        c.due("the last", c.x.below(7), 127);
        c.due("8", c.x.below(8), -1);
        c.due("-1", c.x.below(-1), -1);
    }

    // ---- promises 14 to 16, and what a PAYMENT is

    private void paying() {
        ofOpenDebt();
        neitherOwesNorGets();
        countedEnough();
        prices();
        favoursNoted();
        mayNone();
        mayFirst();
        mayNotOpen();
        willingNobody();
        payMayNot();
        payNone();
    }

    private void neitherOwesNorGets() {
        c.says("by one who neither owes it nor gets it");
        c.fresh("50,0;40,0;30,0;d0>1*10@0");
        c.due("2 alone", c.x.may(0), 4);
        c.due("who owes it", c.x.pay(0, 0), -2);
        c.due("who gets it", c.x.pay(1, 0), -2);
        c.x.law(0, 3);
        c.x.law(1, 0);
        c.due("2 alone, though one has as much as itself", c.x.may(0), 4);
        c.due("who owes it", c.x.pay(0, 0), -2);
        c.due("2", c.x.pay(2, 0), 10);
    }

    private void ofOpenDebt() {
        c.says("A PAYMENT of an OPEN DEBT");
        c.fresh("90,0;80,0;70,0;0,0;d0>3*10@0;d0>3*99@0");
        c.due("OPEN", c.x.pay(1, 0), 10);
        c.due("PAID", c.x.pay(2, 0), -2);
        c.due("PAID", c.x.pay(1, 0), -2);
        c.due("PAID", c.x.may(0), 0);
        c.x.days(1);
        c.x.give(0, 1, 30);
        c.x.law(0, 2);
        c.due("LAPSED", c.x.may(1), 0);
        c.due("LAPSED", c.x.pay(1, 1), -2);
    }

    private void countedEnough() {
        c.says("and its COUNTED now is SUM at least");
        c.fresh("50,0;0,0;10,0;9,0;11,0;d0>1*10@0");
        c.due("10 and 11", c.x.may(0), 20);
        c.x.hide(4, 2);
        c.due("10", c.x.may(0), 4);
        c.x.hide(4, 1);
        c.due("10 and 10", c.x.may(0), 20);
        c.x.law(2, 1);
        c.x.give(2, 3, 1);
        c.due("now, not at noon", c.x.may(0), 24);
        c.due("9", c.x.pay(2, 0), -2);
        c.due("just 10", c.x.pay(4, 0), 10);
        c.due("what is HIDDEN stays", c.x.of(4, 0), 1);
    }

    private void prices() {
        c.says("the PRICE is SUM, and SUM times ASKS by 100 (cut); of who is KIND 0");
        int[][] want = {{1, 99, 1}, {2, 50, 3}, {2, 49, 2}, {99, 99, 197}, {99, 0, 99}, {1, 0, 1}, {50, 2, 51}, {50, 1, 50}};
        for (int[] w : want) {
            c.fresh("200,0;0,0;100," + w[1] + ";100," + w[1] + "!;d0>1*" + w[0] + "@0;d0>1*" + w[0] + "@0");
            c.due("PRICE of " + w[0] + " asking " + w[1], c.x.pay(2, 0), w[2]);
            c.due("of who is KIND", c.x.pay(3, 1), 0);
            c.due("COIN of both", c.x.of(2, 0) * 1000 + c.x.of(3, 0), (100 - w[0]) * 1001);
        }
    }

    private void favoursNoted() {
        c.says("(FAVOURS are summed, and not paid)");
        c.fresh("90,0;0,0;40,10;d0>1*10@0;d0>1*20@0");
        c.due("first", c.x.pay(2, 0), 11);
        c.due("noted", c.x.favour(0, 2), 11);
        c.due("second", c.x.pay(2, 1), 22);
        c.due("summed", c.x.favour(0, 2), 33);
        coins("not paid", 90, 30, 10);
    }

    private void mayNone() {
        c.says("the ROW: the least PRICE of theirs, the first with it (none without)");
        c.fresh(FIVE);
        c.due("three", c.x.may(0), 22);
        c.row("KIND", 0, 2);
        c.due("none", c.x.may(1), 0);
        c.row("none");
    }

    private void mayFirst() {
        c.says("the least PRICE of theirs, the first with it");
        c.fresh("9,10;9,5;9,5;9,0;80,0;d4>3*9@0");
        c.due("9, cut", c.x.may(0), 7);
        c.row("the first", 9, 0);
        c.fresh("90,10;90,5;90,5;9,0;99,0;d4>3*60@0");
        c.due("66, 63, 63", c.x.may(0), 7);
        c.row("the first of the least", 63, 1);
        c.fresh("0,0;90,0!;90,99!;99,0;d3>0*60@0");
        c.due("two KIND ones", c.x.may(0), 6);
        c.row("0 of the first", 0, 1);
    }

    private void mayNotOpen() {
        c.says("0 also if it is not OPEN; NONE: none such.");
        c.fresh(FIVE);
        c.due("PAID", c.x.pay(1, 0), 22);
        c.x.spread();
        c.due("PAID", c.x.may(0), 0);
        c.row("none without");
        c.x.days(1);
        c.x.sheet(2, 5, 90, -10);
        c.due("LAPSED", c.x.may(1), 0);
        c.x.spread();
        c.due("2", c.x.may(2), -1);
        c.due("-1", c.x.may(-1), -1);
        c.due("refused ones leave the ROW", c.x.count(6), 4);
    }

    private void willingNobody() {
        c.says("the ROW: what THE RULE is for it. -2: nobody; NONE: none such.");
        c.fresh(FIVE);
        c.due("1", c.x.willing(0), 1);
        c.row("0", 0);
        c.rule("0-1");
        c.due("nobody by THE RULE", c.x.willing(0), -2);
        c.rule("");
        c.due("nobody may", c.x.willing(1), -2);
        c.x.pay(1, 0);
        c.due("not OPEN", c.x.willing(0), -2);
        c.due("2", c.x.willing(2), -1);
        c.due("-1", c.x.willing(-1), -1);
    }

    private void payMayNot() {
        c.says("One pays a DEBT: PRICE. -2: it may not");
        c.fresh(FIVE);
        c.due("not BELOW", c.x.pay(3, 1), -2);
        c.due("who owes it", c.x.pay(3, 0), -2);
        c.due("who gets it", c.x.pay(0, 0), -2);
        c.x.hide(4, 1);
        c.due("19 COUNTED", c.x.pay(4, 0), -2);
        c.x.hide(4, 0);
        c.due("20 COUNTED", c.x.pay(4, 0), 30);
        c.due("PAID", c.x.pay(1, 0), -2);
        c.x.hide(1, 40);
        c.x.days(1);
        c.due("LAPSED", c.x.debt(1, 4), 2);
        c.x.sheet(2, 5, 90, -10);
        c.due("LAPSED", c.x.pay(1, 1), -2);
    }

    private void payNone() {
        c.says("-2: it may not; NONE: none such.");
        c.fresh(FIVE);
        c.due("person 5", c.x.pay(5, 0), -1);
        c.due("person -1", c.x.pay(-1, 0), -1);
        c.due("debt 2", c.x.pay(1, 2), -1);
        c.due("debt -1", c.x.pay(1, -1), -1);
        c.due("both", c.x.pay(Integer.MAX_VALUE, Integer.MIN_VALUE), -1);
        c.due("who owes nothing there", c.x.pay(3, 2), -1);
    }

    // ---- promise 17

    private void undoing() {
        undoAll();
        undoRefused();
        undoForgotten();
        undoNotForgotten();
        emptyTownForgetsNothing();
    }

    private void undoAll() {
        c.says("(COIN of both, the FAVOUR, the DEBT are as ahead of it): how many are left that can be.");
        c.fresh("99,0;0,0;90,7;d0>1*9@0;d0>1*8@0;d0>1*7@0;d0>1*6@0;d0>1*5@0;d0>1*4@0");
        c.town("d0>1*3@0;d0>1*2@0;d0>1*1@0;d0>1*10@0");
        for (int i = 0; i < 10; i++) {
            c.due("pay", c.x.pay(2, i) > 0, true);
        }
        c.due("ten", c.x.count(3), 10);
        for (int i = 9; i >= 0; i--) {
            c.due("left", c.x.undo(), i);
            c.due("OPEN", c.x.count(2), (1 << 10) - (1 << i));
            c.due("paid by none", c.x.debt(i, 5), -1);
        }
        coins("as ahead of all", 99, 0, 90);
        c.due("FAVOUR", c.x.favour(0, 2), 0);
    }

    private void undoRefused() {
        c.says("how many are left that can be. Refused: none.");
        c.due("nothing was paid", c.x.undo(), -1);
        c.fresh(FIVE);
        c.due("nothing was paid", c.x.undo(), -1);
        c.x.pay(0, 0);
        c.due("what may not is not undone", c.x.undo(), -1);
        c.x.pay(4, 0);
        c.due("one", c.x.undo(), 0);
        c.due("no more", c.x.undo(), -1);
        coins("as told", 30, 40, 50, 60, 20);
    }

    private void behind(String what, int want, Runnable change) {
        c.fresh(FIVE);
        c.x.lend(3, 1, 1);
        c.x.keep(0);
        c.x.pay(4, 0);
        change.run();
        c.due("to be undone behind " + what, c.x.count(3), want);
        c.due("undo behind " + what, c.x.undo(), want - 1);
    }

    private void undoForgotten() {
        c.says("(town(), sheet(), days(), search(), give(), lend(), back(), hide(), noon(), nets() and again() forget them");
        behind("town", 0, () -> c.town("1,0"));
        behind("sheet", 0, () -> c.x.sheet(2, 5, 30, 1));
        behind("sheet of nothing", 0, () -> c.x.sheet(0, 0, 0, 0));
        behind("missing sheet", 0, () -> c.x.sheet(3, 0, 0, 0));
        behind("days", 0, () -> c.x.days(1));
        behind("no days", 0, () -> c.x.days(0));
        behind("search", 0, () -> c.x.search(0, 10));
        behind("search that finds nothing", 0, () -> c.x.search(0, 0));
        behind("give", 0, () -> c.x.give(1, 0, 1));
        behind("lend", 0, () -> c.x.lend(1, 0, 1));
        behind("back", 0, () -> c.x.back());
        behind("hide", 0, () -> c.x.hide(1, 1));
        behind("hide as it was", 0, () -> c.x.hide(1, 0));
        behind("noon", 0, () -> c.x.noon());
        behind("nets", 0, () -> c.x.nets());
        behind("again", 0, () -> c.x.again(0));
    }

    private void undoNotForgotten() {
        c.says("forget them, if they are not refused");
        behind("sheet refused", 1, () -> c.x.sheet(4, 5, 30, 1));
        behind("sheet refused", 1, () -> c.x.sheet(3, 9, 30, 1));
        behind("days refused", 1, () -> c.x.days(61));
        behind("days refused", 1, () -> c.x.days(-1));
        behind("search refused", 1, () -> c.x.search(0, 11));
        behind("search refused", 1, () -> c.x.search(5, 1));
        behind("give refused", 1, () -> c.x.give(1, 1, 1));
        behind("give refused", 1, () -> c.x.give(1, 0, 0));
        behind("lend refused", 1, () -> c.x.lend(1, 0, 99));
        behind("hide refused", 1, () -> c.x.hide(1, 99));
        behind("hide refused", 1, () -> c.x.hide(5, 0));
        behind("again refused", 1, () -> c.x.again(1));
        behind("again refused", 1, () -> c.x.again(2));
        behind("a wrong town", 1, () -> c.town("1"));
        behind("keep", 1, () -> c.x.keep(1));
        behind("law", 1, () -> c.x.law(2, 1));
        c.fresh(FIVE);
        c.x.pay(4, 0);
        c.due("back refused", c.x.back(), -1);
        c.due("undo behind back refused", c.x.undo(), 0);
    }

    private void emptyTownForgetsNothing() {
        c.says("an empty town() does not");
        behind("an empty town", 1, () -> c.town(""));
        behind("an empty town by end", 1, () -> {
            c.x.sign(7);
            c.x.end(0);
            c.x.town();
        });
    }

    // ---- promise 18

    private void judging() {
        judgeN();
        judgeAll();
        judgeFirst();
        judgeNone();
    }

    private void judgeN() {
        c.says("n (0 .. 4), 8 bits each, from the lowest on (the DEBT in the high 4 of them, who pays in the low ones)");
        c.fresh("99,0;0,0;50,0;d0>1*1@0;d0>1*2@0;d0>1*3@0;d0>1*4@0;d0>1*5@0;d0>1*6@0;d0>1*7@0");
        c.town("d0>1*8@0;d0>1*9@0;d0>1*10@0");
        c.due("four, the last one of them above all bits of an int", c.x.judge(4, 0x92827262), -2);
        c.row("7 to 10", 34, 34);
        c.due("three of them", c.x.judge(3, 0x92827262), -2);
        c.row("7 to 9", 24, 24);
        c.due("two of them", c.x.judge(2, 0x92827262), -2);
        c.row("7 and 8", 15, 15);
        c.due("one of them", c.x.judge(1, 0x92827262), -2);
        c.row("7", 7, 7);
        c.due("none of them", c.x.judge(0, 0x92827262), -2);
        c.row("nothing", 0, 0);
        c.due("DEBT 10", c.x.judge(4, 0xA2827262), 3);
        c.due("DEBT 15", c.x.judge(4, 0xF2827262), 3);
        c.due("who is not there", c.x.judge(4, 0x93827262), 3);
        c.due("who is not there", c.x.judge(4, 0x9F827262), 3);
        c.row("till then", 24, 24);
    }

    private void judgeAll() {
        c.says("-2: all can be made, one behind the other");
        c.fresh(FIVE);
        c.due("4 pays 0, then 1 pays for 0", c.x.judge(2, 0x1104), -2);
        c.row("30 and 27, 20 and 25", 57, 45);
        c.due("one twice", c.x.judge(2, 0x0404), 1);
        c.row("once", 30, 20);
    }

    private void judgeFirst() {
        c.says("else the number of the first that can't (0 ..); the ROW: the sum of PRICES, of SUMS till then. Nothing changes.");
        c.fresh(FIVE);
        c.due("the first", c.x.judge(2, 0x0411), 0);
        c.row("nothing", 0, 0);
        c.due("the second", c.x.judge(2, 0x0304), 1);
        c.row("20", 30, 20);
        c.due("the third", c.x.judge(4, 0x02021104), 2);
        c.row("45", 57, 45);
        c.due("KIND", c.x.judge(2, 0xFF02), 1);
        c.row("for nothing", 0, 20);
        c.changesNothing("judge", () -> c.x.judge(2, 0xFF02), 1);
    }

    private void judgeNone() {
        c.says("of SUMS till then. Nothing changes. NONE: another n.");
        c.fresh(FIVE);
        c.x.spread();
        for (int n : new int[] {Integer.MIN_VALUE, -1, 5, Integer.MAX_VALUE}) {
            c.due("n " + n, c.x.judge(n, 0x04), -1);
        }
        c.due("the ROW stays", c.x.count(6), 4);
    }

    // ---- promises 19 and 20

    private void favours() {
        favourNone();
        netsLesser();
        netsNothing();
    }

    private void favourNone() {
        c.says("FAVOURS that one owes another one. NONE: none such, like ones.");
        c.fresh(FIVE);
        c.x.pay(4, 0);
        c.due("3 owes 4", c.x.favour(3, 4), 30);
        c.due("4 owes 3", c.x.favour(4, 3), 0);
        for (int i = 0; i < 5; i++) {
            c.due("like ones", c.x.favour(i, i), -1);
            c.due("5", c.x.favour(i, 5), -1);
            c.due("5", c.x.favour(5, i), -1);
            c.due("-1", c.x.favour(i, -1), -1);
            c.due("-1", c.x.favour(-1, i), -1);
        }
        c.due("like ones that are not there", c.x.favour(5, 5), -1);
    }

    private void netsLesser() {
        c.says("the lesser against the greater, of all pairs: by how much they are less in all");
        // 0 owes 1 the 12, 1 owes 0 the 7; 2 and 3 owe one another 5
        c.fresh("50,0;40,0;30,0;20,0;d0>3*12@0;d1>3*7@0;d2>0*5@0;d3>0*5@0");
        c.due("1 for 0", c.x.pay(1, 0), 12);
        c.x.law(0, 2);
        c.due("0 for 1", c.x.pay(0, 1), 7);
        c.x.sheet(2, 4, 10, 10);
        c.due("3 for 2", c.x.pay(3, 2), 5);
        c.x.law(0, 0);
        c.x.sheet(2, 4, 10, 10);
        c.due("2 for 3", c.x.pay(2, 3), 5);
        c.due("7 and 7, 5 and 5", c.x.nets(), 24);
        c.due("the rest", c.x.favour(0, 1), 5);
        c.due("none", c.x.favour(1, 0) + c.x.favour(2, 3) + c.x.favour(3, 2), 0);
    }

    private void netsNothing() {
        c.says("FAVOURS of two who owe one another are set off");
        c.due("of nobody", c.x.nets(), 0);
        c.fresh(FIVE);
        c.due("no FAVOURS", c.x.nets(), 0);
        c.x.pay(4, 0);
        c.due("one way alone", c.x.nets(), 0);
        c.due("it stays", c.x.favour(3, 4), 30);
        c.fresh("0,0;1,0;2,0;3,0;4,0;5,0;60,0;70,0;d6>0*5@0;d7>0*9@0");
        c.x.law(0, 2);
        c.due("7 for 6", c.x.pay(7, 0), 5);
        c.x.law(0, 0);
        c.due("6 for 7", c.x.pay(6, 1), 9);
        c.due("5 and 5, of the last two of eight", c.x.nets(), 10);
        c.due("7 owes 6", c.x.favour(7, 6), 4);
        c.due("6 owes 7", c.x.favour(6, 7), 0);
    }

    // ---- promises 21 to 23

    private void giving() {
        giveAll();
        giveRefused();
        lendSix();
        lendRefused();
        backNotAsMuch();
        backNothing();
    }

    private void giveAll() {
        c.says("One gives another one coin (1 .. its COUNTED): true.");
        c.fresh("10,0;20,0");
        c.x.hide(0, 3);
        c.due("1", c.x.give(0, 1, 1), true);
        coins("1", 9, 21);
        c.due("all COUNTED", c.x.give(0, 1, 6), true);
        coins("all COUNTED", 3, 27);
        c.due("HIDDEN", c.x.of(0, 3), 3);
        c.due("nothing left", c.x.give(0, 1, 1), false);
    }

    private void giveRefused() {
        c.says("its COUNTED): true. Refused: others.");
        c.fresh("10,0;20,0");
        c.x.hide(0, 3);
        c.due("0", c.x.give(0, 1, 0), false);
        c.due("-1", c.x.give(0, 1, -1), false);
        c.due("the least", c.x.give(0, 1, Integer.MIN_VALUE), false);
        c.due("8 of 7 COUNTED", c.x.give(0, 1, 8), false);
        c.due("the most", c.x.give(0, 1, Integer.MAX_VALUE), false);
        c.due("itself", c.x.give(0, 0, 1), false);
        c.due("to 2", c.x.give(0, 2, 1), false);
        c.due("to -1", c.x.give(0, -1, 1), false);
        c.due("from 2", c.x.give(2, 0, 1), false);
        c.due("from -1", c.x.give(-1, 0, 1), false);
        coins("as told", 10, 20);
    }

    private void lendSix() {
        c.says("how many are lent then. Refused: others, 6.");
        c.fresh("10,0;20,0");
        for (int i = 1; i <= 6; i++) {
            c.due("lent", c.x.lend(0, 1, 1), i);
        }
        c.due("a seventh", c.x.lend(0, 1, 1), -1);
        coins("six", 4, 26);
        c.due("back", c.x.back(), 5);
        c.due("a sixth", c.x.lend(0, 1, 2), 6);
        c.due("a seventh", c.x.lend(1, 0, 2), -1);
        coins("six", 3, 27);
    }

    private void lendRefused() {
        c.says("`int lend(int from, int to, int coin)`: The same for an hour");
        c.fresh("10,0;20,0");
        c.x.hide(0, 3);
        c.due("all COUNTED", c.x.lend(0, 1, 7), 1);
        c.due("nothing left", c.x.lend(0, 1, 1), -1);
        c.due("0", c.x.lend(1, 0, 0), -1);
        c.due("-1", c.x.lend(1, 0, -1), -1);
        c.due("28 of 27", c.x.lend(1, 0, 28), -1);
        c.due("itself", c.x.lend(1, 1, 1), -1);
        c.due("to 2", c.x.lend(1, 2, 1), -1);
        c.due("to -1", c.x.lend(1, -1, 1), -1);
        c.due("from 2", c.x.lend(2, 1, 1), -1);
        c.due("from -1", c.x.lend(-1, 1, 1), -1);
        c.due("one is lent", c.x.count(4), 1);
        coins("one", 3, 27);
    }

    private void backNotAsMuch() {
        c.says("-2: it has not as much COUNTED");
        c.fresh("10,0;0,0;0,0");
        c.x.lend(0, 1, 5);
        c.x.give(1, 2, 1);
        c.changesNothing("4 of 5", () -> c.x.back(), -2);
        c.x.give(2, 1, 1);
        c.x.hide(1, 1);
        c.due("4 of 5 COUNTED", c.x.back(), -2);
        c.x.hide(1, 0);
        c.due("5", c.x.back(), 0);
        coins("as told", 10, 0, 0);
        c.fresh("60,0;10,0;0,0;d0>2*20@0");
        c.x.lend(0, 1, 15);
        c.due("pays with what is lent", c.x.pay(1, 0), 20);
        c.changesNothing("5 of 15", () -> c.x.back(), -2);
        c.due("the PAYMENT can be undone", c.x.undo(), 0);
        c.due("25 of 15", c.x.back(), 0);
        coins("as told", 60, 10, 0);
    }

    private void backNothing() {
        c.says("What was lent last is given back: how many are left. -2: it has not as much COUNTED; NONE: nothing is lent.");
        c.due("of nobody", c.x.back(), -1);
        c.fresh("10,0;20,0;0,0");
        c.due("nothing", c.x.back(), -1);
        c.x.lend(0, 1, 10);
        c.x.lend(1, 2, 25);
        c.due("the last", c.x.back(), 1);
        coins("the first is lent", 0, 30, 0);
        c.due("the first", c.x.back(), 0);
        coins("as told", 10, 20, 0);
        c.due("nothing", c.x.back(), -1);
    }

    // ---- promise 24

    private void gifts() {
        giftLeast();
        giftFirst();
        giftMayNow();
        giftNone();
        giftNotOpen();
        giftByListThen();
    }

    private void giftLeast() {
        c.says("The least coin (1 ..) which who owes a DEBT could get as a gift, so that somebody may pay it");
        c.fresh("10,0;10,0;0,0;d0>2*9@0");
        c.due("11 against 9", c.x.gift(0), 1);
        c.row("of 1, by 1", 1, 2);
        c.fresh("10,0;20,0;0,0;d0>2*14@0");
        c.due("16 against 14", c.x.gift(0), 6);
        c.row("all it keeps", 1, 2);
        c.fresh("10,0;20,0;0,0;d0>2*15@0");
        c.due("14 is too little", c.x.gift(0), -2);
        c.fresh("0,0;999,0;999,0;0,0;d0>3*99@0");
        c.due("500 against 499", c.x.gift(0), 500);
        c.row("of 1, by 1", 1, 2);
    }

    private void giftFirst() {
        c.says("the ROW: from whom (the first of equal ones), who may pay it then (bits)");
        c.fresh("10,0;10,0;10,0;5,0;d0>3*5@0");
        c.due("1 of any", c.x.gift(0), 1);
        c.row("from 1, by 1 and 2", 1, 6);
        c.fresh("5,0;10,0;10,0;10,0;d1>0*10@0");
        c.due("1 of any", c.x.gift(0), 1);
        c.row("from who gets it, by 2 and 3", 0, 12);
        c.fresh("0,0;10,0;10,0;10,0;d1>0*10@0");
        c.due("0 has none", c.x.gift(0), 1);
        c.row("from 2, by 3", 2, 8);
    }

    private void giftMayNow() {
        c.says("0: somebody may now; -2: no gift does");
        c.fresh("10,0;9,0;0,0;20,0;d0>2*9@0;d3>2*99@0");
        c.x.spread();
        c.due("1 may now", c.x.gift(0), 0);
        c.due("99 nobody has", c.x.gift(1), -2);
        c.due("the ROW stays", c.x.count(6), 4);
    }

    private void giftNone() {
        c.says("-2: no gift does");
        c.fresh("10,0;20,0;0,0;d0>2*5@0");
        c.due("6", c.x.gift(0), 6);
        c.x.hide(1, 15);
        c.due("5 COUNTED may now", c.x.gift(0), 0);
        c.x.hide(1, 0);
        c.x.law(2, 1);
        c.due("at noon", c.x.gift(0), -2);
        c.fresh("10,0;0,0;d0>1*5@0");
        c.due("nobody else", c.x.gift(0), -2);
        c.fresh("10,0;20,0;6,0;d0>2*10@0");
        c.x.hide(2, 1);
        c.due("of 1: 16 against 14", c.x.gift(0), 6);
        c.row("of 1", 1, 2);
        c.x.sheet(2, 3, 10, 0);
        c.due("9 left of 10", c.x.gift(0), 1);
        c.row("from 2, by 1", 2, 2);
        c.x.hide(2, 10);
        c.due("nothing COUNTED to give", c.x.gift(0), -2);
    }

    private void giftNotOpen() {
        c.says("-2: no gift does; NONE: not OPEN, none such.");
        c.fresh("10,0;9,0;0,0;d0>2*9@0;d0>2*9@0");
        c.x.pay(1, 0);
        c.due("PAID", c.x.gift(0), -1);
        c.x.days(1);
        c.due("LAPSED", c.x.gift(1), -1);
        c.due("2", c.x.gift(2), -1);
        c.due("-1", c.x.gift(-1), -1);
    }

    private void giftByListThen() {
        c.says("(by THE LIST as it would be then)");
        // by the next less: who gives stands next below, but between them is nobody else
        c.fresh("10,0;20,0;9,0;0,0;d0>3*9@0");
        c.x.law(0, 1);
        c.due("2 may now", c.x.gift(0), 0);
        c.x.hide(2, 1);
        c.due("16 over 14, 8 is not next", c.x.gift(0), 6);
        c.row("from 1, by 1", 1, 2);
    }

    // ---- promise 25

    private void poorer() {
        poorerLeast();
        poorerFirst();
        poorerMayNow();
        poorerNone();
        poorerNotOpen();
    }

    private void poorerLeast() {
        c.says("The least coin (1 ..) which one who may not pay a DEBT could give away to somebody else, so that it may");
        c.fresh("10,0;10,0;0,0;d0>2*9@0;d0>2*10@0");
        c.due("9 against 11", c.x.poorer(1, 0), 1);
        c.row("to 0", 0);
        c.due("9 is too little", c.x.poorer(1, 1), -2);
        c.fresh("10,0;30,0;20,0;5,0;d2>0*13@0");
        c.due("24 against 26", c.x.poorer(1, 0), 6);
        c.row("to who owes it", 2);
        c.x.law(0, 3);
        c.x.law(1, 12);
        c.due("19 against 31", c.x.poorer(1, 0), 11);
        c.x.law(1, 22);
        c.due("14 against 36", c.x.poorer(1, 0), 16);
        c.x.law(1, 24);
        c.due("13 against 37", c.x.poorer(1, 0), 17);
        c.x.law(1, 25);
        c.due("12 is too little", c.x.poorer(1, 0), -2);
    }

    private void poorerFirst() {
        c.says("the ROW: to whom (the first of equal ones)");
        c.fresh("5,0;10,0;10,0;d1>0*5@0");
        c.due("1 to any", c.x.poorer(2, 0), 1);
        c.row("to who gets it", 0);
        c.fresh("10,0;5,0;10,0;d0>1*5@0");
        c.due("1 to any", c.x.poorer(2, 0), 1);
        c.row("to who owes it", 0);
        c.fresh("10,0;5,0;10,0;d2>1*5@0");
        c.due("1 to any else", c.x.poorer(0, 0), 1);
        c.row("not to itself", 1);
    }

    private void poorerMayNow() {
        c.says("0: it may now; -2: none");
        c.fresh("10,0;9,0;0,0;d0>2*9@0");
        c.x.spread();
        c.due("it may", c.x.poorer(1, 0), 0);
        c.due("who owes it", c.x.poorer(0, 0), -2);
        c.due("who gets it", c.x.poorer(2, 0), -2);
        c.due("the ROW stays", c.x.count(6), 4);
    }

    private void poorerNone() {
        c.says("-2: none; NONE");
        c.fresh("10,0;20,0;0,0;d0>2*5@0");
        c.x.law(2, 1);
        c.due("at noon", c.x.poorer(1, 0), -2);
        c.x.law(2, 0);
        c.x.law(0, 2);
        c.due("it may by having more", c.x.poorer(1, 0), 0);
        c.x.law(0, 0);
        c.due("14 against 16", c.x.poorer(1, 0), 6);
        c.x.hide(1, 20);
        c.due("nothing COUNTED", c.x.poorer(1, 0), -2);
        c.x.hide(1, 10);
        c.due("9 against 11", c.x.poorer(1, 0), 1);
    }

    private void poorerNotOpen() {
        c.says("-2: none; NONE: not OPEN, none such.");
        c.fresh("10,0;9,0;0,0;d0>2*9@0;d0>2*9@0");
        c.x.pay(1, 0);
        c.due("PAID", c.x.poorer(1, 0), -1);
        c.due("PAID, who owed it", c.x.poorer(0, 0), -1);
        c.x.days(1);
        c.due("LAPSED", c.x.poorer(1, 1), -1);
        c.fresh("10,0;9,0;0,0;d0>2*9@0");
        c.due("debt 1", c.x.poorer(1, 1), -1);
        c.due("debt -1", c.x.poorer(1, -1), -1);
        c.due("person 3", c.x.poorer(3, 0), -1);
        c.due("person -1", c.x.poorer(-1, 0), -1);
    }
}
