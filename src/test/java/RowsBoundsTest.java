/** A test of its own for each sentence of promises 26 to 35 that names a boundary case. */
public final class RowsBoundsTest {
    private static final String FOUR = "10,0;50,20;100,10!;5,5;d2>3*20@0;d1>0*8@1;d2>1*60@0";
    private static final String TWO_PAY = "100,0;50,50;50,0;0,0;d0>3*20@0;d0>3*40@1";
    /** 1 or 3 pay DEBT 0; only behind 1 somebody pays DEBT 1, and then DEBT 2. */
    private static final String CHAIN = "100,0;10,0;0,0;7,0;0,0;d0>2*5@0;d3>4*3@0;d4>3*2@0";

    private final Check c = new Check("RowsBoundsTest");

    public static void main(String[] args) {
        RowsBoundsTest test = new RowsBoundsTest();
        test.states();
        test.asItIsNow();
        test.mosts();
        test.alls();
        test.nevers();
        test.waysThere();
        test.aheads();
        test.fewests();
        test.sorted();
        test.flows();
        test.proofs();
        test.gaps();
        test.c.finish();
    }

    private interface OfDay {
        long of(int day);
    }

    /** Days outside of 0 .. 99 are refused, and leave the ROW. */
    private void noneOfDays(OfDay call) {
        c.x.spread();
        for (int day : new int[] {Integer.MIN_VALUE, -1, 100, Integer.MAX_VALUE}) {
            c.due("day " + day, call.of(day), -1);
        }
        c.due("the ROW stays", c.x.count(6), 4);
        c.due("day 0", call.of(0) != -1, true);
        c.due("day 99", call.of(99) != -1, true);
    }

    /** 3000 states by day 0, more by day 1. */
    private void manyStates() {
        c.fresh("999,0;700,0;100,0;200,0;300,0;400,0;500,0");
        c.town("d0>1*1@0;d6>1*2@0;d6>1*4@0;d6>1*8@0;d3>1*16@0;d3>1*32@0");
        c.town("d3>1*3@1");
    }

    private void tooMany(OfDay call) {
        manyStates();
        c.x.spread();
        c.due("more states", call.of(1), -3);
        c.due("the ROW stays", c.x.count(6), 4);
        c.due("of day 99 too", call.of(99), -3);
        c.due("3000 states", call.of(0) >= 0, true);
    }

    // ---- of which DEBTS, and how many states

    private void states() {
        openAndDue();
        threeThousand();
        ofPaidAndCoin();
    }

    private void openAndDue() {
        c.says("of DEBTS that are OPEN and DUE by a day");
        c.fresh("99,0;90,0;0,0;d0>2*1@0;d0>2*2@5;d0>2*4@99");
        c.due("by 0", c.x.most(0), 1);
        c.row("1", 1, 2);
        c.due("by 4", c.x.most(4), 1);
        c.due("by 5", c.x.most(5), 2);
        c.row("1 and 2", 3, 4);
        c.due("by 98", c.x.most(98), 2);
        c.due("by 99", c.x.most(99), 3);
        c.row("all", 7, 8);
        c.x.pay(1, 0);
        c.due("not PAID", c.x.most(99), 2);
        c.row("2 and 4", 6, 4);
        c.x.hide(1, 89);
        c.x.days(6);
        c.due("LAPSED", c.x.debt(1, 4), 2);
        c.x.hide(1, 0);
        c.due("not LAPSED", c.x.most(99), 1);
        c.row("4", 4, 2);
    }

    private void threeThousand() {
        c.says("more than 3000 states of PAID DEBTS and COIN: -3");
        manyStates();
        c.due("six", c.x.most(0), 6);
        c.row("6 * 5 * 5 * 5 * 2 * 2", 63, 3000);
        c.due("more", c.x.most(1), -3);
        c.fresh("23,0;27,0;22,0;7,0;19,0;6,0");
        c.town("d3>4*7@0;d0>3*9@0;d1>3*9@0;d3>2*9@0;d1>0*2@0;d0>5*2@0;d0>3*2@0");
        c.due("just 3000", c.x.most(0) >= 0, true);
        c.due("states", c.x.row(1), 3000);
        // counted by another program
        c.fresh("28,0;29,0;20,0;5,0;21,0;21,0");
        c.town("d3>2*7@0;d5>1*9@0;d0>2*6@0;d1>2*4@0;d1>3*1@0;d1>0*1@0;d2>0*7@0");
        c.due("just 3001", c.x.most(0), -3);
        c.fresh("11,0;7,0;0,0;20,0;3,0;18,0;18,0;3,0");
        c.town("d3>4*4@0;d6>3*5@0;d3>5*2@0;d4>0*4@0;d3>5*6@0;d3>6*3@0");
        c.due("just 3001", c.x.most(0), -3);
        c.x.hide(7, 3);
        c.due("less by one who hides", c.x.most(0) >= 0, true);
    }

    private void ofPaidAndCoin() {
        c.says("states of PAID DEBTS and COIN");
        c.fresh("99,0;50,0;50,0;0,0;d0>3*5@0;d0>3*5@0");
        c.due("two", c.x.most(0), 2);
        // none; each by each; both by 1, by 2, by one each
        c.row("1 and 4 and 3", 10, 8);
        c.fresh("99,0;50,0;50,0;0,0;d0>3*5@0;d0>3*6@0");
        c.due("two", c.x.most(0), 2);
        c.row("1 and 4 and 4", 11, 9);
    }

    private interface Change {
        long make();
    }

    /** What it was behind a change is what a new object with the same town answers. */
    private void now(String what, int want, Change change) {
        change.make();
        c.due("ways behind " + what, c.x.ways(0), want);
    }

    /** Answers do not stay as they were when the town does not. */
    private void asItIsNow() {
        c.says("How many rows of PAYMENTS lead to all of them being PAID");
        c.fresh("50,0;40,0;30,0;10,0;d0>3*20@0;d0>3*15@1");
        c.due("ways", c.x.ways(0), 2);
        c.due("of another day", c.x.ways(1), 6);
        now("the first day", 2, () -> c.x.most(99));
        now("all COIN", 1, () -> c.x.sheet(2, 4, 25, -4));
        now("all COIN", 2, () -> c.x.sheet(2, 4, 50, -10));
        now("COIN of one", 1, () -> c.x.give(2, 3, 30) ? 1 : 0);
        now("COIN of one", 2, () -> c.x.give(3, 2, 30) ? 1 : 0);
        now("what one hides", 1, () -> c.x.hide(2, 11));
        now("what all hide", 0, () -> c.x.hide(1, 21) + c.x.hide(0, 1) + c.x.hide(3, 1) + c.x.hide(2, 12));
        now("what all hide", 2, () -> c.x.hide(1, 0) + c.x.hide(0, 0) + c.x.hide(3, 0) + c.x.hide(2, 0));
        now("sort", 0, () -> c.x.law(0, 2));
        now("sort and BY", 1, () -> c.x.law(0, 3) + c.x.law(1, 20));
        now("BY", 2, () -> c.x.law(1, 10));
        now("all COIN", 0, () -> c.x.sheet(2, 4, 19, 20));
        now("noon, as they came", 2, () -> c.x.law(2, 1));
        now("no noon", 0, () -> c.x.law(2, 0));
        now("noon and BY", 2, () -> c.x.law(2, 1) + c.x.law(1, 1));
        now("THE LIST of noon", 0, () -> c.x.noon());
        now("sort", 2, () -> c.x.law(0, 2));
        now("sort and noon", 0, () -> c.x.law(0, 1) + c.x.law(2, 0));
        now("all COIN", 1, () -> c.x.sheet(2, 4, 50, -10));
        now("sort", 2, () -> c.x.law(0, 0));
        now("one of PEOPLE told", 3, () -> c.town("30,0"));
        now("COIN of the first", 0, () -> c.x.give(0, 3, 40) ? 1 : 0);
        now("COIN of the first", 3, () -> c.x.give(3, 0, 40) ? 1 : 0);
        now("what the first hides", 0, () -> c.x.hide(0, 40));
        now("what the first hides", 3, () -> c.x.hide(0, 0));
        now("a DEBT told", 11, () -> c.town("d0>1*20@0"));
        now("a PAYMENT", 3, () -> c.x.pay(1, 0));
        now("no PAYMENT", 11, () -> c.x.undo());
        c.rule("0-1");
        now("noon", 11, () -> c.x.noon());
        now("a DAY on which they LAPSE", 1, () -> c.x.days(1));
        c.fresh("9,0;5,0;0,0;d0>2*50@0");
        c.due("never", c.x.never(0), 1);
        c.x.days(1);
        c.due("LAPSED, all else as it was", c.x.never(0), 0);
    }

    // ---- promise 26

    private void mosts() {
        mostNone();
        mostTooMany();
        mostOfNothing();
        mostAndGreatest();
    }

    private void mostNone() {
        c.says("-3; NONE: a day not 0 .. 99.");
        c.fresh(TWO_PAY);
        noneOfDays(day -> c.x.most(day));
    }

    private void mostTooMany() {
        c.says("how many states there are. -3; NONE: a day not 0 .. 99.");
        tooMany(day -> c.x.most(day));
    }

    private void mostOfNothing() {
        c.says("The most of them that can be PAID: how many");
        c.due("of nobody", c.x.most(0), 0);
        c.row("one state", 0, 1);
        c.fresh("9,0;9,0;9,0;d0>2*5@0");
        c.due("nobody can", c.x.most(0), 0);
        c.row("one state", 0, 1);
        c.fresh("99,0;90,0;0,0");
        c.town("d0>2*1@0;d0>2*1@0;d0>2*1@0;d0>2*1@0;d0>2*1@0;d0>2*1@0");
        c.town("d0>2*1@0;d0>2*1@0;d0>2*1@0;d0>2*1@0");
        c.due("all ten", c.x.most(0), 10);
        c.row("2 by 10", 10, 1024);
    }

    private void mostAndGreatest() {
        c.says("the ROW: the greatest sum of SUMS that can, how many states there are");
        c.fresh("99,0;30,0;0,0;d0>2*30@0;d0>2*10@0;d0>2*10@0");
        c.due("two of 10", c.x.most(0), 2);
        c.row("one of 30", 30, 5);
        c.fresh("99,0;30,0;0,0;d0>2*10@0;d0>2*10@0;d0>2*11@0");
        c.due("two", c.x.most(0), 2);
        c.row("10 and 11", 21, 7);
    }

    // ---- promise 27

    private void alls() {
        allLeastRow();
        allFromTheFirst();
        allTold();
        allTen();
        allCant();
        allTooMany();
        allNone();
    }

    private void allLeastRow() {
        c.says("PAYMENTS in order (10 at most): of equal ones the least row");
        c.fresh("99,0;50,0;50,0;0,0;d0>3*5@0;d0>3*6@0");
        c.due("11", c.x.all(0), 11);
        c.row("by 1, by 1", 1, 11);
        c.fresh("99,0;50,50;50,0;0,0;d0>3*5@0;d0>3*6@0");
        c.due("11", c.x.all(0), 11);
        c.row("by 2, by 2", 2, 12);
        c.fresh("99,0;6,0;5,0;0,0;d0>3*5@0;d0>3*6@0");
        c.due("11", c.x.all(0), 11);
        c.row("the first by 2, so that 1 can", 2, 11);
        // the second first: with what it brings, who has got it pays the first
        c.fresh("20,0;30,0;0,0;50,0;d0>3*10@0;d3>2*15@0");
        c.due("25", c.x.all(0), 25);
        c.row("the second first", 11, 1);
        // of one state: 1 and 2 may change places, and what is cut is the same
        c.fresh("99,6;9,50;5,15;5,50;d0>3*4@0;d0>1*1@0;d0>3*1@0;d3>0*3@0");
        c.due("4, 1, 1 and 3 with 1", c.x.all(0), 10);
        c.row("of one state", 2, 12, 21, 31);
        c.fresh("99,9;8,50;3,32;5,3;d0>3*2@0;d3>0*1@0;d0>3*1@0");
        c.due("2, 1 and 1", c.x.all(0), 4);
        c.row("of several states", 2, 12, 21);
    }

    private void allFromTheFirst() {
        c.says("Rows of numbers are compared from the first on.");
        c.fresh("99,0;6,0;6,0;0,0;d0>3*6@0;d0>3*5@0");
        c.due("11", c.x.all(0), 11);
        c.row("1, 12 rather than 2, 11", 1, 12);
        c.fresh("99,0;6,0;5,0;0,0;d0>3*5@0;d0>3*6@0");
        c.due("11", c.x.all(0), 11);
        c.row("2, 11 rather than 11, 2", 2, 11);
        c.fresh("99,0;9,0;9,0;9,0;0,0;d0>4*9@0;d0>4*9@0;d0>4*9@0");
        c.due("27", c.x.all(0), 27);
        c.row("1, 12, 23", 1, 12, 23);
    }

    private void allTold() {
        c.says("A PAYMENT is told as 10 times the DEBT, and who pays.");
        c.fresh("0,0;1,0;2,0;3,0;4,0;5,0;99,0;90,0;d6>0*50@0;d6>0*40@0");
        c.due("by 7", c.x.all(0), 90);
        c.row("by 7", 7, 17);
        c.fresh("50,0;0,0;99,0;d2>1*50@0");
        c.due("by 0", c.x.all(0), 50);
        c.row("by 0", 0);
        c.fresh("1,0;2,0;3,0;4,0;5,0;99,0;0,0;90,0");
        c.town("d5>6*10@0;d5>6*9@0;d5>6*9@0;d5>6*9@0;d5>6*9@0;d5>6*8@0;d5>6*8@0");
        c.town("d5>6*8@0;d5>6*8@0;d5>6*8@0");
        c.x.hide(6, 0);
        c.x.law(0, 3);
        c.x.law(1, 2);
        c.x.law(2, 1);
        c.due("ten by 7", c.x.all(0), 86);
        c.row("ten by 7", 7, 17, 27, 37, 47, 57, 67, 77, 87, 97);
    }

    private void allTen() {
        c.says("the ROW: PAYMENTS in order (10 at most)");
        c.fresh("99,0;90,0;0,0");
        c.town("d0>2*1@0;d0>2*1@0;d0>2*1@0;d0>2*1@0;d0>2*1@0;d0>2*1@0");
        c.town("d0>2*1@0;d0>2*1@0;d0>2*1@0;d0>2*1@0");
        c.due("ten", c.x.all(0), 10);
        c.row("ten", 1, 11, 21, 31, 41, 51, 61, 71, 81, 91);
        c.due("10! rows", c.x.ways(0), 3628800);
        c.fresh();
        c.due("without such", c.x.all(0), 0);
        c.row("none");
    }

    private void allCant() {
        c.says("of equal ones the least row. -2: they can't all be; -3; NONE as most().");
        c.fresh(FOUR);
        c.x.spread();
        c.due("not the third", c.x.all(0), -2);
        c.due("the ROW stays", c.x.count(6), 4);
        c.fresh("99,0;30,0;0,0;d0>2*30@0;d0>2*10@0");
        c.due("each, not all", c.x.all(0), -2);
    }

    private void allTooMany() {
        c.says("-2: they can't all be; -3; NONE as most().");
        tooMany(day -> c.x.all(day));
    }

    private void allNone() {
        c.says("they can't all be; -3; NONE as most().");
        c.fresh(TWO_PAY);
        noneOfDays(day -> c.x.all(day));
    }

    // ---- promise 28

    private void nevers() {
        neverBits();
        neverTooMany();
        neverNone();
    }

    private void neverBits() {
        c.says("DEBTS of these (bits) that are PAID in no state.");
        c.due("of nobody", c.x.never(0), 0);
        c.fresh("99,0;30,0;0,0;d0>2*31@0;d0>2*30@0;d1>2*1@0;d0>2*1@9");
        c.due("31, and what 1 owes", c.x.never(0), 5);
        c.due("1 by day 9", c.x.never(9), 5);
        c.x.hide(1, 30);
        c.due("all", c.x.never(0), 7);
        c.due("all by day 9", c.x.never(9), 15);
    }

    private void neverTooMany() {
        c.says("that are PAID in no state. -3");
        tooMany(day -> c.x.never(day));
    }

    private void neverNone() {
        c.says("PAID in no state. -3; NONE as most().");
        c.fresh(TWO_PAY);
        noneOfDays(day -> c.x.never(day));
    }

    // ---- promise 29

    private void waysThere() {
        waysNoneThere();
        waysWithoutDebts();
        waysPayers();
        waysTooMany();
        waysNone();
    }

    private void waysNoneThere() {
        c.says("0: none leads there (the ROW stays)");
        c.fresh(FOUR);
        c.x.spread();
        c.due("none", c.x.ways(1), 0);
        c.due("the ROW stays", c.x.count(6), 4);
    }

    private void waysWithoutDebts() {
        c.says("without such DEBTS 1");
        c.due("of nobody", c.x.ways(0), 1);
        c.row("nobody", 0);
        c.fresh("9,0;5,0;0,0;d0>2*5@7");
        c.due("none DUE", c.x.ways(6), 1);
        c.row("all pay in none", 7);
        c.due("one DUE", c.x.ways(7), 1);
        c.row("0 and 2 pay in none", 5);
        c.x.pay(1, 0);
        c.due("PAID", c.x.ways(7), 1);
        c.row("all pay in none", 7);
    }

    private void waysPayers() {
        c.says("the ROW: PEOPLE (bits) who pay in none of these rows");
        // 3 can pay DEBT 0, but then nobody DEBT 1: it pays in no row to all
        c.fresh(CHAIN);
        c.due("two", c.x.ways(0), 2);
        c.row("0, 3 and 4", 25);
        c.fresh("99,0;90,0;90,0;90,0;90,0;90,0;90,0;90,0");
        c.town("d0>1*1@0;d0>1*1@0");
        c.due("6 and 6, in two orders", c.x.ways(0), 72);
        c.row("who owes and who gets", 3);
    }

    private void waysTooMany() {
        c.says("without such DEBTS 1; -3");
        tooMany(day -> c.x.ways(day));
    }

    private void waysNone() {
        c.says("without such DEBTS 1; -3; NONE as most().");
        c.fresh(TWO_PAY);
        noneOfDays(day -> c.x.ways(day));
    }

    // ---- promise 30

    private void aheads() {
        aheadInEach();
        aheadNever();
        aheadNoneOfThese();
        aheadTooMany();
        aheadNone();
    }

    private void aheadInEach() {
        c.says("one of which has to be PAID ahead of a DEBT of these, in each row in which that one is PAID");
        c.fresh(CHAIN);
        c.due("none", c.x.ahead(0, 0), 0);
        c.due("the first", c.x.ahead(1, 0), 1);
        c.due("both", c.x.ahead(2, 0), 3);
        c.town("d0>2*5@9");
        c.due("the other one by day 9", c.x.ahead(1, 9), 0);
        c.due("the second alone", c.x.ahead(2, 9), 2);
        c.due("not by day 0", c.x.ahead(2, 0), 3);
    }

    private void aheadNever() {
        c.says("-2: it never is, or is none of these");
        c.fresh(FOUR);
        c.due("never", c.x.ahead(2, 1), -2);
        c.due("the first", c.x.ahead(1, 1), 1);
        c.x.hide(1, 50);
        c.due("never now", c.x.ahead(1, 1), -2);
        c.due("never now", c.x.ahead(0, 1), -2);
    }

    private void aheadNoneOfThese() {
        c.says("or is none of these");
        c.fresh(FOUR);
        c.due("not DUE", c.x.ahead(1, 0), -2);
        c.x.pay(1, 0);
        c.due("PAID", c.x.ahead(0, 1), -2);
        c.x.days(1);
        c.due("LAPSED", c.x.ahead(2, 1), -2);
        c.due("of these", c.x.ahead(1, 1), 0);
    }

    private void aheadTooMany() {
        c.says("or is none of these; -3");
        tooMany(day -> c.x.ahead(0, day));
    }

    private void aheadNone() {
        c.says("-3; NONE: none such, as most().");
        c.fresh(TWO_PAY);
        noneOfDays(day -> c.x.ahead(0, day));
        c.due("2", c.x.ahead(2, 0), -1);
        c.due("-1", c.x.ahead(-1, 0), -1);
        c.due("2 by day 100", c.x.ahead(2, 100), -1);
        manyStates();
        c.due("ahead of -3", c.x.ahead(7, 1), -1);
        c.due("ahead of -3", c.x.ahead(-1, 1), -1);
    }

    // ---- promise 31

    private void fewests() {
        fewestLeast();
        fewestOfNothing();
        fewestCant();
        fewestTooMany();
        fewestNone();
    }

    private void fewestLeast() {
        c.says("they (bits): of as few the least");
        c.fresh(TWO_PAY);
        c.due("one of two", c.x.fewest(0), 1);
        c.row("1", 2);
        c.due("both", c.x.fewest(1), 2);
        c.row("1 and 2", 6);
        c.x.hide(1, 31);
        c.due("2 alone of day 0", c.x.fewest(0), 1);
        c.row("2", 4);
        c.fresh("99,0;0,0;20,0;10,0;10,0;d0>1*10@0;d0>1*10@0");
        c.due("2 rather than 3 and 4", c.x.fewest(0), 1);
        c.row("2", 4);
        c.x.hide(2, 1);
        c.due("two of three", c.x.fewest(0), 2);
        c.row("2 and 3", 12);
        c.fresh("99,8;4,50;2,7;7,3;d0>1*4@0;d3>0*1@0");
        c.due("3, and 1 or 2", c.x.fewest(0), 2);
        c.row("1 and 3", 10);
        c.fresh("99,6;3,5;3,7;8,3;d0>1*1@0;d0>3*1@0");
        c.due("2 alone is neither", c.x.fewest(0), 1);
        c.row("2", 4);
        c.fresh("99,9;4,5;2,0;3,0;d0>2*2@0;d0>3*3@0");
        c.due("1 can't both", c.x.fewest(0), 2);
        c.row("1, then 2 with what it got", 6);
        c.fresh("99,8;6,8;8,0;d0>2*2@0;d0>1*2@0");
        c.due("each for the other one", c.x.fewest(0), 2);
        c.row("1 and 2", 6);
        c.due("two", c.x.ways(0), 2);
        c.row("0", 1);
        c.fresh("9,0;5,0;0,0;d0>2*1@0");
        c.due("a SUM of 1", c.x.fewest(0), 1);
        c.row("1", 2);
        c.due("one", c.x.ways(0), 1);
        c.row("0 and 2", 5);
        c.fresh("5,0;9,0;0,0;d1>2*1@0");
        c.due("by 0", c.x.fewest(0), 1);
        c.row("0", 1);
        c.due("one", c.x.ways(0), 1);
        c.row("1 and 2", 6);
    }

    private void fewestOfNothing() {
        c.says("The fewest PEOPLE who, nobody else paying, can pay all of them: how many");
        c.due("of nobody", c.x.fewest(0), 0);
        c.row("nobody", 0);
        c.fresh("9,0;5,0;0,0;d0>2*5@7");
        c.due("none DUE", c.x.fewest(6), 0);
        c.row("nobody", 0);
        c.due("one", c.x.fewest(7), 1);
        c.row("1", 2);
    }

    private void fewestCant() {
        c.says("of as few the least. -2: they can't; -3 as most(); NONE as most().");
        c.fresh(FOUR);
        c.x.spread();
        c.due("not the third", c.x.fewest(0), -2);
        c.due("the ROW stays", c.x.count(6), 4);
    }

    private void fewestTooMany() {
        c.says("-2: they can't; -3 as most()");
        tooMany(day -> c.x.fewest(day));
    }

    private void fewestNone() {
        c.says("-3 as most(); NONE as most().");
        c.fresh(TWO_PAY);
        noneOfDays(day -> c.x.fewest(day));
    }

    // ---- promise 32

    private void sorted() {
        sortsFirst();
        sortsTooMany();
        sortsNone();
    }

    private void sortsFirst() {
        c.says("most() by each sort 0 .. 3 of THE LAW: the first sort with the most; the ROW: of each sort");
        c.due("of nobody", c.x.sorts(0), 0);
        c.row("none", 0, 0, 0, 0);
        c.fresh("10,0;20,0;0,0;d0>2*15@0");
        c.x.law(0, 3);
        c.due("more alone", c.x.sorts(0), 2);
        c.row("of each", 0, 0, 1, 0);
        c.due("THE LAW stays", c.x.law(0, 0), 3);
        c.fresh("30,0;20,0;25,0;0,0;d0>3*9@0;d0>3*15@0;d0>3*10@0");
        c.x.law(1, 12);
        c.due("the first alone", c.x.sorts(0), 0);
        c.row("of each", 3, 2, 0, 0);
        // 1 is just 10 below, and 2 next below; with BY 0 who has the same may too
        c.fresh("30,0;30,0;0,0;d0>2*30@0");
        c.x.law(1, 0);
        c.due("the last alone", c.x.sorts(0), 3);
        c.row("of each", 0, 0, 0, 1);
        // who gets the first is next less: by the next less the second alone
        c.fresh("20,0;18,0;16,0;0,0;d0>1*16@0;d1>3*10@0");
        c.due("the first of three", c.x.sorts(0), 0);
        c.row("of each", 2, 1, 2, 2);
        c.due("once more", c.x.sorts(0), 0);
        c.row("of each", 2, 1, 2, 2);
    }

    private void sortsTooMany() {
        c.says("of each sort. -3, if one does so");
        tooMany(day -> c.x.sorts(day));
        c.x.law(0, 1);
        c.due("few by this sort", c.x.most(1), 6);
        c.due("too many by another one", c.x.sorts(1), -3);
    }

    private void sortsNone() {
        c.says("-3, if one does so; NONE as most().");
        c.fresh(TWO_PAY);
        noneOfDays(day -> c.x.sorts(day));
    }

    // ---- promise 33, and parts

    private void flows() {
        flowNotOwn();
        flowCounted();
        flowNotWhatItGets();
        flowList();
        flowNotWholly();
        flowNone();
    }

    private void flowNotOwn() {
        c.says("(as THE LIST is, not its own, none it gets)");
        c.fresh("50,0;40,0;0,0;d0>1*30@0");
        c.due("who gets it alone is BELOW", c.x.flow(0), 0);
        c.row("none", 1);
        c.x.law(0, 3);
        c.x.law(1, 0);
        c.due("nor who owes it", c.x.flow(0), 0);
        c.town("20,0");
        c.due("another one", c.x.flow(0), 20);
        c.row("a part", 1);
    }

    private void flowCounted() {
        c.says("COUNTED now in all at most");
        c.fresh("90,0;40,0;0,0;d0>2*30@0;d0>2*30@0");
        c.due("40 of both", c.x.flow(0), 40);
        c.row("each could", 0);
        c.x.hide(1, 10);
        c.due("30 of both", c.x.flow(0), 30);
        c.row("each could", 0);
        c.x.hide(1, 11);
        c.due("29 of both", c.x.flow(0), 29);
        c.row("none could", 3);
        c.x.hide(1, 40);
        c.due("nothing", c.x.flow(0), 0);
    }

    private void flowNotWhatItGets() {
        c.says("what one gets that day it can't pay with");
        c.fresh("90,0;40,0;10,0;0,0;d0>2*40@0;d0>3*50@0");
        c.due("40 and 10", c.x.flow(0), 50);
        c.row("50 is all that 1 and 2 have", 0);
        c.fresh("90,0;40,0;9,0;0,0;d0>2*40@0;d0>3*50@0");
        c.due("40 and 9", c.x.flow(0), 49);
        c.row("49 is less", 2);
    }

    private void flowList() {
        c.says("each pays parts of OPEN DEBTS DUE by a day of those it is BELOW");
        c.fresh("50,0;40,0;0,0;d0>2*30@5");
        c.due("not DUE", c.x.flow(4), 0);
        c.row("none of these", 0);
        c.due("DUE", c.x.flow(5), 30);
        c.x.law(2, 1);
        c.x.give(0, 1, 20);
        c.due("BELOW as told", c.x.flow(5), 30);
        c.x.noon();
        c.due("not as at noon", c.x.flow(5), 0);
        c.x.law(0, 2);
        c.due("by more", c.x.flow(5), 30);
        c.x.pay(1, 0);
        c.due("PAID", c.x.flow(5), 0);
        c.row("none of these", 0);
        c.due("of nobody", new PaidByPoorer().flow(0), 0);
    }

    private void flowNotWholly() {
        c.says("DEBTS (bits) of these that can't be paid wholly, even if no others were paid");
        c.fresh("90,0;20,0;10,0;0,0;d0>3*30@0;d0>3*31@0;d0>3*1@0;d0>2*21@0;d0>2*20@0");
        c.town("d0>3*99@9");
        c.due("all", c.x.flow(0), 30);
        c.row("31 of 30, 21 of 20", 10);
        c.due("all", c.x.flow(9), 30);
        c.row("99 too", 42);
    }

    private void flowNone() {
        c.says("even if no others were paid. NONE as most().");
        c.fresh(TWO_PAY);
        noneOfDays(day -> c.x.flow(day));
    }

    // ---- promise 34

    private void proofs() {
        proofLeast();
        proofRow();
        proofNone();
    }

    private void proofLeast() {
        c.says("make up just that most (nothing more can be paid then): the least such set as a number (bits)");
        c.due("of nobody", c.x.proof(0), 0);
        c.row("nothing", 0, 0);
        c.fresh("50,0;30,0;0,0;d0>2*30@0");
        c.due("nobody, though 1 would do", c.x.proof(0), 0);
        c.row("the DEBT", 30, 1);
        c.x.hide(1, 1);
        c.due("1", c.x.proof(0), 2);
        c.row("no DEBT", 0, 0);
        c.fresh("50,0;30,0;0,0;9,0;d0>2*40@0");
        c.due("1 and 3", c.x.proof(0), 10);
        c.row("no DEBT", 0, 0);
        c.fresh("50,0;30,0;0,0;10,0;d0>2*40@0");
        c.due("nobody", c.x.proof(0), 0);
        c.row("the DEBT", 40, 1);
        c.fresh("90,0;10,0;10,0;0,0;d0>3*20@0;d0>1*20@0;d0>2*20@0");
        c.due("all of them", c.x.proof(0), 14);
        c.row("3 may pay with nothing", 0, 0);
        // all have the same, and each may pay parts of what another one owes
        c.fresh("10,0;10,0;10,0;d0>1*99@0;d1>2*99@0;d2>0*99@0");
        c.x.law(0, 3);
        c.x.law(1, 0);
        c.due("everybody", c.x.proof(0), 7);
        c.row("no DEBTS", 0, 0);
        c.due("all COIN", c.x.flow(0), 30);
        c.row("none wholly", 7);
    }

    private void proofRow() {
        c.says("the ROW: these SUMS together, these DEBTS (bits)");
        c.fresh("90,0;30,0;20,0;0,0;d0>3*25@0;d0>1*30@0;d0>2*40@5");
        c.due("2 and 3", c.x.proof(0), 12);
        c.row("the first", 25, 1);
        c.due("1, 2 and 3", c.x.proof(5), 14);
        c.row("none", 0, 0);
        c.fresh("99,0;90,0;90,0;0,0;d0>3*25@0;d0>1*30@0;d0>2*40@0");
        c.due("nobody", c.x.proof(0), 0);
        c.row("all", 95, 7);
    }

    private void proofNone() {
        c.says("these DEBTS (bits). NONE as most().");
        c.fresh(TWO_PAY);
        noneOfDays(day -> c.x.proof(day));
    }

    // ---- promise 35

    private void gaps() {
        gapLess();
        gapSort();
        gapNone();
    }

    private void gapLess() {
        c.says("By how much flow() would be more with another sort of THE LAW (0 .. 3; below 0: less).");
        c.fresh(FOUR);
        c.due("8 instead of 35", c.x.gap(2, 1), -27);
        c.due("the same", c.x.gap(0, 1), 0);
        c.due("the same", c.x.gap(3, 1), 0);
        c.x.law(0, 2);
        c.due("35 instead of 8", c.x.gap(0, 1), 27);
        c.due("35 instead of 8", c.x.gap(3, 1), 27);
        c.due("the same", c.x.gap(2, 1), 0);
        c.x.law(1, 51);
        c.due("by 51: 10 of 0, 5 of 3", c.x.gap(3, 1), 7);
        c.due("THE LAW stays", c.x.law(0, 2), 2);
        c.due("of nobody", new PaidByPoorer().gap(3, 99), 0);
    }

    private void gapSort() {
        c.says("NONE: another sort, as most().");
        c.fresh(TWO_PAY);
        c.x.spread();
        for (int sort : new int[] {Integer.MIN_VALUE, -1, 4, Integer.MAX_VALUE}) {
            c.due("sort " + sort, c.x.gap(sort, 0), -1);
        }
        c.due("sort 3", c.x.gap(3, 0), 0);
        c.due("the ROW stays", c.x.count(6), 4);
    }

    private void gapNone() {
        c.says("another sort, as most().");
        c.fresh(TWO_PAY);
        for (int day : new int[] {Integer.MIN_VALUE, -1, 100, Integer.MAX_VALUE}) {
            c.due("day " + day, c.x.gap(0, day), -1);
            c.due("day " + day + ", sort 4", c.x.gap(4, day), -1);
        }
        c.due("day 0", c.x.gap(0, 0), 0);
        c.due("day 99, the next less: 2 has 50 as 1", c.x.gap(1, 99), 0);
        c.due("day 99, by more", c.x.gap(2, 99), -60);
    }
}
