/** A test of its own for each sentence of TODAY and the ROW, and of promises 36 to 47, that names a boundary case. */
public final class DaysBoundsTest {
    private static final String FOUR = "10,0;50,20;100,10!;5,5;d2>3*20@0;d1>0*8@1;d2>1*60@0";
    private static final String FIVE = "30,0;40,10;50,20!;60,0;20,50;d3>0*20@5;d0>4*25@0";

    private final Check c = new Check("DaysBoundsTest");

    public static void main(String[] args) {
        DaysBoundsTest test = new DaysBoundsTest();
        test.goingBy();
        test.refusals();
        test.lowests();
        test.lapses();
        test.daysGo();
        test.bests();
        test.hiding();
        test.spreads();
        test.keeping();
        test.counts();
        test.c.finish();
    }

    // ---- a DAY

    private void goingBy() {
        noonFirst();
        dueOrWere();
        byDueThenNumber();
        lapsesLate();
        atFirst();
        oneMore();
    }

    private void noonFirst() {
        c.says("A DAY goes by: noon() first");
        c.fresh("20,0;30,0;0,0;d0>2*10@0;d0>2*5@1");
        c.x.law(2, 1);
        c.x.give(1, 2, 15);
        c.due("as it came nobody may", c.x.may(0), 0);
        c.due("as at noon one may", c.x.days(1), 1);
        c.due("THE LIST of noon", c.x.of(1, 4), 15);
        c.due("COIN behind it", c.x.of(1, 0), 5);
        c.due("at the next noon", c.x.days(1), 1);
        c.due("THE LIST of it", c.x.of(1, 4), 5);
        c.due("no DAY, no noon", c.x.days(0), 0);
        c.due("THE LIST of it", c.x.of(1, 4), 5);
    }

    private void dueOrWere() {
        c.says("then OPEN DEBTS that are DUE TODAY or were");
        c.fresh("90,0;50,0;0,0;d0>2*1@0;d0>2*2@1;d0>2*4@2");
        c.x.law(3, 9);
        c.due("one", c.x.days(1), 1);
        c.due("two left", c.x.count(2), 6);
        c.x.hide(1, 49);
        c.due("not that of 2", c.x.days(1), 0);
        c.x.hide(1, 0);
        c.due("DUE, and that was", c.x.days(1), 2);
        c.town("d0>2*8@0");
        c.due("it was, ahead of its being told", c.x.days(1), 1);
        c.due("none left", c.x.count(2), 0);
    }

    private void byDueThenNumber() {
        c.says("by DUE, then by number, one by one: who is WILLING pays it");
        c.fresh("99,0;10,0;0,0;d0>2*10@1;d0>2*6@0");
        c.x.law(3, 9);
        c.x.hide(1, 10);
        c.due("none", c.x.days(1), 0);
        c.x.hide(1, 0);
        c.due("one", c.x.days(1), 1);
        c.due("that of the earlier DUE", c.x.debt(1, 4), 1);
        c.fresh("99,0;10,0;0,0;d0>2*6@0;d0>2*7@0;d0>2*4@0");
        c.due("two", c.x.days(1), 2);
        c.due("the first", c.x.debt(0, 4), 1);
        c.due("not the second", c.x.debt(1, 4), 2);
        c.due("the third", c.x.debt(2, 4), 1);
        c.fresh("99,0;10,0;0,0;1,0;d0>2*10@0;d0>3*9@0");
        c.due("with what it got just now", c.x.days(1), 2);
        c.due("by 2", c.x.debt(1, 5), 2);
        // 10 to pay with: 1, 2, 3, 4 by DUE, and nothing for the others
        c.fresh("99,0;10,0;0,0;d0>2*5@5;d0>2*3@2;d0>2*4@4;d0>2*2@1;d0>2*1@0;d0>2*9@5");
        c.x.law(3, 99);
        c.x.hide(1, 10);
        c.due("none", c.x.days(5), 0);
        c.x.hide(1, 0);
        c.due("four", c.x.days(1), 4);
        c.due("not both of 5", c.x.count(2), 33);
        c.fresh("99,0;10,0;0,0;d0>2*3@1;d0>2*2@0;d0>2*5@1;d0>2*9@0;d0>2*8@1");
        c.x.law(3, 99);
        c.x.hide(1, 10);
        c.due("none", c.x.days(1), 0);
        c.x.hide(1, 0);
        c.due("2, 3 and 5", c.x.days(1), 3);
        c.due("not 9 and 8", c.x.count(2), 24);
        c.fresh("9,0;99,0;0,0;d1>2*5@0");
        c.due("0 pays", c.x.days(1), 1);
        c.due("by 0", c.x.debt(0, 5), 0);
    }

    private void lapsesLate() {
        c.says("with nobody WILLING it stays, and LAPSES, if TODAY is DUE and LATE or more");
        for (int late = 0; late < 3; late++) {
            c.fresh("9,0;5,0;0,0;d0>2*50@3");
            c.x.law(3, late);
            for (int day = 0; day < 3 + late; day++) {
                c.due("no PAYMENT", c.x.days(1), 0);
                c.due("stays on DAY " + day, c.x.debt(0, 4), 0);
            }
            c.due("no PAYMENT", c.x.days(1), 0);
            c.row("one LAPSED", 0, 1);
            c.due("LAPSES on DAY " + (3 + late), c.x.debt(0, 4), 2);
        }
        c.fresh("9,0;5,0;0,0;d0>2*5@0");
        c.x.law(3, 1);
        c.rule("0-1");
        c.x.days(1);
        c.due("nobody is WILLING", c.x.debt(0, 4), 0);
        c.rule("0");
        c.x.days(1);
        c.due("on the last DAY one is", c.x.debt(0, 4), 1);
        c.fresh("9,0;5,0;0,0;d0>2*50@99");
        c.x.law(3, 99);
        c.x.days(60);
        c.x.days(60);
        c.x.days(60);
        c.x.days(18);
        c.due("99 and 99 is TODAY", c.x.today(), 198);
        c.due("stays", c.x.debt(0, 4), 0);
        c.x.days(1);
        c.due("LAPSES", c.x.debt(0, 4), 2);
        c.fresh("9,0;5,0;0,0");
        c.x.days(60);
        c.town("d0>2*50@3");
        c.x.days(1);
        c.due("more than LATE", c.x.debt(0, 4), 2);
    }

    private void atFirst() {
        c.says("TODAY: a DAY, at first 0");
        c.due("at first", c.x.today(), 0);
        c.fresh(FOUR);
        c.due("with a town", c.x.today(), 0);
        c.x.noon();
        c.due("behind noon()", c.x.today(), 0);
    }

    private void oneMore() {
        c.says("then TODAY is 1 more");
        c.x.days(1);
        c.due("1", c.x.today(), 1);
        c.x.days(0);
        c.due("no DAY", c.x.today(), 1);
        c.x.days(60);
        c.due("60 more", c.x.today(), 61);
        c.x.noon();
        c.due("noon() is no DAY", c.x.today(), 61);
    }

    // ---- the ROW, and what is refused

    private void refusals() {
        rowTold();
        rowFractions();
        refusedOfTheTown();
        refusedPayments();
        refusedRows();
        refusedDays();
        belowNoughtChangesNothing();
        noneFirst();
    }

    /** What every refused call is made on: nothing in it is as in a new object. */
    private void full() {
        c.fresh(FIVE + ";d2>1*99@1");
        c.x.law(1, 3);
        c.x.law(3, 2);
        c.rule("c");
        c.x.hide(2, 3);
        c.x.lend(3, 4, 1);
        c.x.noon();
        c.x.keep(0);
        c.due("pay", c.x.pay(4, 0), 30);
        c.x.seed(77);
        c.x.proof(5);
        c.tell("7,7");
    }

    private void refused(String what, Check.Call call) {
        answers(what, call, -1);
    }

    private void answers(String what, Check.Call call, long want) {
        full();
        c.changesNothing(what, call, want);
        c.due("undo behind " + what, c.x.undo(), 0);
        c.due("back behind " + what, c.x.back(), 0);
        c.due("COIN behind " + what, c.x.of(3, 0) * 100 + c.x.of(4, 0), 6020);
        c.due("again behind " + what, c.x.again(0), true);
        c.due("the text behind " + what, c.x.town(), 1);
        c.due("1 is WILLING behind " + what, c.x.willing(0), 2);
        c.row("THE RULE behind " + what, 47);
    }

    private void refusedOfTheTown() {
        c.says("Refused calls answer NONE, or false, and change nothing but THE TEXT");
        refused("law(4, 0)", () -> c.x.law(4, 0));
        refused("law(-1, 0)", () -> c.x.law(-1, 0));
        refused("law(0, 4)", () -> c.x.law(0, 4));
        refused("law(1, 100)", () -> c.x.law(1, 100));
        refused("law(2, 2)", () -> c.x.law(2, 2));
        refused("law(3, -1)", () -> c.x.law(3, -1));
        refused("sheet(4, 5, 1, 1)", () -> c.x.sheet(4, 5, 1, 1));
        refused("sheet(-1, 5, 1, 1)", () -> c.x.sheet(-1, 5, 1, 1));
        refused("sheet(0, 9, 1, 1)", () -> c.x.sheet(0, 9, 1, 1));
        refused("sheet(3, 9, 1, 1)", () -> c.x.sheet(3, 9, 1, 1));
        refused("hide(5, 0)", () -> c.x.hide(5, 0));
        refused("hide(0, 31)", () -> c.x.hide(0, 51));
        refused("hide(0, -1)", () -> c.x.hide(0, -1));
        refused("search(5, 1)", () -> c.x.search(5, 1));
        refused("search(2, 11)", () -> c.x.search(2, 11));
        refused("search(2, -1)", () -> c.x.search(2, -1));
        answers("end(4)", () -> c.x.end(4) ? 1 : 0, 0);
        answers("end(-1)", () -> c.x.end(-1) ? 1 : 0, 0);
        full();
        for (int i = 0; i < 19; i++) {
            c.x.sign(1);
        }
        c.changesNothing("sign behind 79", () -> c.x.sign(1), -1);
        c.due("79 signs", c.x.count(7), 79);
    }

    private void refusedPayments() {
        c.says("Refused calls answer NONE, or false");
        refused("below(5)", () -> c.x.below(5));
        refused("may(3)", () -> c.x.may(3));
        refused("willing(3)", () -> c.x.willing(3));
        refused("pay(5, 1)", () -> c.x.pay(5, 1));
        refused("pay(1, 3)", () -> c.x.pay(1, 3));
        refused("judge(5, 0)", () -> c.x.judge(5, 0));
        refused("judge(-1, 0)", () -> c.x.judge(-1, 0));
        refused("favour(1, 1)", () -> c.x.favour(1, 1));
        answers("give(0, 0, 1)", () -> c.x.give(0, 0, 1) ? 1 : 0, 0);
        answers("give(2, 0, 48)", () -> c.x.give(2, 0, 48) ? 1 : 0, 0);
        answers("give(0, 1, 0)", () -> c.x.give(0, 1, 0) ? 1 : 0, 0);
        refused("lend(0, 0, 1)", () -> c.x.lend(0, 0, 1));
        refused("lend(2, 0, 48)", () -> c.x.lend(2, 0, 48));
        refused("lend(0, 5, 1)", () -> c.x.lend(0, 5, 1));
        refused("gift(0), PAID", () -> c.x.gift(0));
        refused("gift(3)", () -> c.x.gift(3));
        refused("poorer(1, 0), PAID", () -> c.x.poorer(1, 0));
        refused("poorer(5, 1)", () -> c.x.poorer(5, 1));
        full();
        c.due("undo", c.x.undo(), 0);
        c.changesNothing("undo of none", () -> c.x.undo(), -1);
        full();
        c.due("back", c.x.back(), 0);
        c.changesNothing("back of none", () -> c.x.back(), -1);
    }

    private void refusedRows() {
        c.says("and change nothing but THE TEXT");
        refused("most(100)", () -> c.x.most(100));
        refused("all(-1)", () -> c.x.all(-1));
        refused("never(100)", () -> c.x.never(100));
        refused("ways(-1)", () -> c.x.ways(-1));
        refused("ahead(3, 0)", () -> c.x.ahead(3, 0));
        refused("ahead(1, 100)", () -> c.x.ahead(1, 100));
        refused("fewest(100)", () -> c.x.fewest(100));
        refused("sorts(-1)", () -> c.x.sorts(-1));
        refused("flow(100)", () -> c.x.flow(100));
        refused("proof(-1)", () -> c.x.proof(-1));
        refused("gap(4, 0)", () -> c.x.gap(4, 0));
        refused("gap(0, 100)", () -> c.x.gap(0, 100));
    }

    private void refusedDays() {
        c.says("which a call that reads it empties");
        refused("lapse(61)", () -> c.x.lapse(61));
        refused("days(61)", () -> c.x.days(61));
        refused("days(-1)", () -> c.x.days(-1));
        refused("best(-1)", () -> c.x.best(-1));
        answers("keep(2)", () -> c.x.keep(2) ? 1 : 0, 0);
        answers("keep(-1)", () -> c.x.keep(-1) ? 1 : 0, 0);
        answers("again(1)", () -> c.x.again(1) ? 1 : 0, 0);
        answers("again(2)", () -> c.x.again(2) ? 1 : 0, 0);
        refused("count(8)", () -> c.x.count(8));
        refused("count(-1)", () -> c.x.count(-1));
        full();
        c.x.town();
        c.x.keep(1);
        c.town("1,1");
        c.changesNothing("again behind PEOPLE told", () -> c.x.again(1) ? 1 : 0, 0);
        full();
        c.x.end(1);
        c.due("a wrong town", c.x.town(), -2);
        c.due("emptied", c.x.count(7), 0);
        c.changesNothing("a wrong town", () -> c.town("7,7;"), -5);
        full();
        c.x.end(0);
        c.changesNothing("a wrong rule", () -> c.rule("i+"), -3);
    }

    private void belowNoughtChangesNothing() {
        c.says("Refused calls answer NONE");
        answers("sheet(0, -1, 1, 1)", () -> c.x.sheet(0, -1, 1, 1), -2);
        answers("pay(3, 1)", () -> c.x.pay(3, 1), -2);
        answers("willing(0), PAID", () -> c.x.willing(0), -2);
        answers("poorer(0, 1)", () -> c.x.poorer(0, 1), -2);
        answers("gift(2)", () -> c.x.gift(2), -2);
        answers("all(5)", () -> c.x.all(5), -2);
        answers("ahead(0, 5), PAID", () -> c.x.ahead(0, 5), -2);
        answers("fewest(5)", () -> c.x.fewest(5), -2);
        answers("ways(5)", () -> c.x.ways(5), 0);
    }

    private void noneFirst() {
        c.says("NONE is asked ahead of other answers below 0 (what a TEXT tells wrongly aside).");
        full();
        c.due("another kind, ahead of n below 0", c.x.sheet(4, -1, 1, 1), -1);
        c.due("n above 8, ahead of missing", c.x.sheet(3, 9, 1, 1), -1);
        c.due("no DEBT, ahead of nobody WILLING", c.x.willing(3), -1);
        c.due("nobody, ahead of may not", c.x.pay(5, 0), -1);
        c.due("no DEBT, ahead of may not", c.x.pay(3, 3), -1);
        c.due("n, ahead of all can be made", c.x.judge(5, 0), -1);
        c.due("not OPEN, ahead of no gift", c.x.gift(0), -1);
        c.due("not OPEN, ahead of none", c.x.poorer(3, 0), -1);
        c.due("nobody, ahead of none", c.x.poorer(5, 1), -1);
        c.due("day, ahead of they can't", c.x.all(100), -1);
        c.due("day, ahead of never", c.x.ahead(0, 100), -1);
        c.due("no DEBT, ahead of none of these", c.x.ahead(3, 5), -1);
        c.due("day, ahead of they can't", c.x.fewest(100), -1);
        c.fresh("999,0;700,0;100,0;200,0;300,0;400,0;500,0");
        c.town("d0>1*1@0;d6>1*2@0;d6>1*4@0;d6>1*8@0;d3>1*16@0;d3>1*32@0;d3>1*3@0");
        c.due("too many", c.x.most(0), -3);
        c.due("ahead of too many", c.x.ahead(7, 0), -1);
    }

    private void rowTold() {
        c.says("ROW: numbers told last by a call that says so.");
        c.due("nothing", c.x.count(6), 0);
        c.fresh(FIVE);
        c.x.spread();
        c.due("four numbers", c.x.count(6), 4);
        c.x.hide(0, 1);
        c.x.hide(0, 0);
        c.x.law(0, 0);
        c.x.below(0);
        c.x.never(5);
        c.x.ahead(0, 5);
        c.x.gap(0, 5);
        c.x.poorer(1, 0);
        c.x.nets();
        c.x.keep(0);
        c.x.again(0);
        c.x.give(0, 1, 1);
        c.x.give(1, 0, 1);
        c.x.noon();
        c.x.today();
        c.row("200 by 1000, as spread told", 1, 5, 60, 20);
        c.x.flow(5);
        c.due("one number now", c.x.count(6), 1);
        c.none("the second is gone", () -> c.x.row(1));
    }

    private void rowFractions() {
        c.says("Fractions are told in lowest terms, upper and lower number (0 by 1).");
        c.fresh("7,0;7,0;7,0");
        c.x.spread();
        c.row("0 by 63", 0, 1, 7, 7);
        c.x.sheet(2, 3, 5, 5);
        c.x.spread();
        c.row("20 by 90", 2, 9, 15, 5);
        c.x.sheet(2, 3, 1, 1);
        c.x.spread();
        c.row("4 by 18", 2, 9, 3, 1);
        c.x.sheet(2, 1, 1, 1);
        c.x.spread();
        c.row("2 by 3", 2, 3, 1, 0);
    }

    // ---- promise 36

    private void lowests() {
        lowestFirst();
        lowestRow();
        lowestNobody();
    }

    private void lowestFirst() {
        c.says("Who has the least by THE LIST; of equal ones the first: it");
        c.fresh("5,0;4,0;4,0;6,0;4,0");
        c.due("1", c.x.lowest(), 1);
        c.row("three", 22, 0);
        c.x.hide(3, 6);
        c.due("who hides all", c.x.lowest(), 3);
        c.row("one", 8, 0);
        c.x.law(2, 1);
        c.due("as it came", c.x.lowest(), 1);
        c.x.noon();
        c.due("as at noon", c.x.lowest(), 3);
        c.x.sheet(3, 0, 0, 0);
        c.x.noon();
        c.due("all have nothing", c.x.lowest(), 0);
        c.row("all", 31, 0);
    }

    private void lowestRow() {
        c.says("the ROW: all such (bits), OPEN DEBTS (bits) that they owe");
        c.fresh("5,0;4,0;4,0;6,0;d1>0*4@0;d2>0*1@0;d3>0*1@0;d0>1*9@0");
        c.due("1 and 2", c.x.lowest(), 1);
        c.row("the first two", 6, 3);
        c.x.law(0, 2);
        c.due("3 pays", c.x.pay(3, 1), 1);
        c.due("1 and 2", c.x.lowest(), 1);
        c.row("that OPEN", 6, 1);
        c.x.hide(0, 6);
        c.x.hide(3, 5);
        c.rule("0-1");
        c.x.days(1);
        c.due("LAPSED", c.x.debt(0, 4), 2);
        c.due("0 and 3", c.x.lowest(), 0);
        c.row("none OPEN", 9, 0);
    }

    private void lowestNobody() {
        c.says("OPEN DEBTS (bits) that they owe. -2: nobody.");
        c.due("nobody", c.x.lowest(), -2);
        c.row("nothing is told");
        c.fresh("0,0");
        c.due("one alone", c.x.lowest(), 0);
        c.row("it", 1, 0);
    }

    // ---- promises 37 and 38

    private void lapses() {
        lapseBits();
        lapseNone();
    }

    private void lapseBits() {
        c.says("DEBTS (bits) that would LAPSE, if n DAYS (0 .. 60) went by; the ROW: their SUMS together. Nothing changes.");
        c.due("of nobody", c.x.lapse(60), 0);
        c.row("none", 0);
        c.fresh("9,0;5,0;0,0;d0>2*50@0;d0>2*60@59;d0>2*70@60;d0>2*5@0");
        c.due("no DAY", c.x.lapse(0), 0);
        c.row("none", 0);
        c.due("one DAY", c.x.lapse(1), 1);
        c.row("50", 50);
        c.due("59 DAYS", c.x.lapse(59), 1);
        c.due("60 DAYS", c.x.lapse(60), 3);
        c.row("50 and 60", 110);
        c.changesNothing("lapse", () -> c.x.lapse(60), 3);
        c.x.days(1);
        c.due("not what LAPSED already", c.x.lapse(60), 6);
        c.row("60 and 70", 130);
    }

    private void lapseNone() {
        c.says("their SUMS together. Nothing changes. NONE: another n.");
        noneOfSpans(n -> c.x.lapse(n));
    }

    private interface OfSpan {
        long of(int n);
    }

    private void noneOfSpans(OfSpan call) {
        c.fresh(FOUR);
        c.x.spread();
        for (int n : new int[] {Integer.MIN_VALUE, -1, 61, Integer.MAX_VALUE}) {
            c.due("n " + n, call.of(n), -1);
        }
        c.due("the ROW stays", c.x.count(6), 4);
        c.due("TODAY", c.x.today(), 0);
        c.due("n 0", call.of(0), 0);
        c.due("n 60", call.of(60) != -1, true);
    }

    private void daysGo() {
        daysTold();
        daysNone();
    }

    private void daysTold() {
        c.says("how many PAYMENTS; the ROW: the sum of PRICES, how many LAPSED in them");
        c.due("of nobody", c.x.days(60), 0);
        c.row("nothing", 0, 0);
        c.fresh(FOUR);
        c.due("no DAY", c.x.days(0), 0);
        c.row("nothing", 0, 0);
        c.due("one", c.x.days(1), 1);
        c.row("24, the third LAPSED", 24, 1);
        c.due("another one", c.x.days(1), 1);
        c.row("8, none LAPSED in it", 8, 0);
        c.due("60", c.x.days(60), 0);
        c.row("nothing", 0, 0);
        c.due("TODAY", c.x.today(), 62);
    }

    private void daysNone() {
        c.says("how many LAPSED in them. NONE: another n.");
        noneOfSpans(n -> c.x.days(n));
    }

    // ---- promises 39 and 40

    private void bests() {
        bestFirst();
        bestNone();
    }

    private void bestFirst() {
        c.says("of equal ones the first: it; the ROW: that sum of each sort. Nothing changes. NONE: another n.");
        c.due("of nobody", c.x.best(60), 0);
        c.row("none", 0, 0, 0, 0);
        c.fresh(FOUR);
        c.due("no DAY", c.x.best(0), 0);
        c.row("none", 0, 0, 0, 0);
        c.due("two DAYS", c.x.best(2), 0);
        c.row("of each", 28, 28, 8, 28);
        c.x.law(0, 2);
        c.changesNothing("best as told", () -> c.x.best(2), 0);
        c.fresh("10,0;20,0;0,0;d0>2*15@0");
        c.due("who has more", c.x.best(1), 2);
        c.row("of each", 0, 0, 15, 0);
        c.fresh("30,0;30,0;0,0;d0>2*30@0");
        c.x.law(1, 0);
        c.due("by 0", c.x.best(1), 3);
        c.row("of each", 0, 0, 0, 30);
    }

    private void bestNone() {
        c.says("that sum of each sort. Nothing changes. NONE: another n.");
        noneOfSpans(n -> c.x.best(n));
    }

    private void hiding() {
        paysMore();
        paysNone();
    }

    private void paysMore() {
        c.says("by how much COIN and FAVOURS it is owed would be more behind them than if nothing of it was HIDDEN. Nothing changes.");
        c.fresh("50,0;60,50;0,0;d0>2*20@0");
        c.due("nothing HIDDEN", c.x.pays(1, 0, 1), 0);
        c.due("50 COUNTED", c.x.pays(1, 10, 1), 0);
        c.due("49 COUNTED", c.x.pays(1, 11, 1), 10);
        c.due("20 COUNTED", c.x.pays(1, 40, 1), 10);
        c.due("19 COUNTED", c.x.pays(1, 41, 1), 0);
        c.due("all HIDDEN", c.x.pays(1, 60, 1), 0);
        c.due("no DAY", c.x.pays(1, 11, 0), 0);
        c.due("60 DAYS", c.x.pays(1, 11, 60), 10);
        c.x.hide(1, 11);
        c.changesNothing("pays", () -> c.x.pays(1, 11, 9), 10);
        c.due("nothing HIDDEN against nothing HIDDEN", c.x.pays(1, 0, 1), 0);
        c.fresh("50,0;45,50;0,0;d0>2*20@0");
        c.due("less", c.x.pays(1, 30, 1), -10);
        c.fresh("50,0;50,50;0,0;d0>2*20@0");
        c.due("by 1 that is HIDDEN", c.x.pays(1, 1, 1), 10);
        c.due("by none that is", c.x.pays(1, 0, 1), 0);
        c.fresh("50,0;49,50;0,0;d0>2*20@0");
        c.due("by none that is", c.x.pays(1, 0, 1), 0);
        c.due("by 1 that is", c.x.pays(1, 1, 1), 0);
    }

    private void paysNone() {
        c.says("Nothing changes. NoSuchElementException: others.");
        c.fresh("50,0;60,50;0,0;d0>2*20@0");
        c.x.spread();
        c.none("3", () -> c.x.pays(3, 0, 1));
        c.none("-1", () -> c.x.pays(-1, 0, 1));
        c.none("v 61", () -> c.x.pays(1, 61, 1));
        c.none("v -1", () -> c.x.pays(1, -1, 1));
        c.none("v 1 of nothing", () -> c.x.pays(2, 1, 1));
        c.none("n 61", () -> c.x.pays(1, 0, 61));
        c.none("n -1", () -> c.x.pays(1, 0, -1));
        c.none("the most", () -> c.x.pays(1, Integer.MAX_VALUE, Integer.MAX_VALUE));
        c.none("the least", () -> c.x.pays(1, Integer.MIN_VALUE, Integer.MIN_VALUE));
        c.due("v 0 of nothing", c.x.pays(2, 0, 60), 0);
        c.due("the ROW stays", c.x.count(6), 4);
    }

    // ---- promise 41

    private void spreads() {
        spreadPairs();
        spreadNobody();
    }

    private void spreadPairs() {
        c.says("over all pairs of PEOPLE, of the difference of their COIN, by the number of PEOPLE times the sum of all COIN");
        c.fresh("7,0");
        c.due("one alone", c.x.spread(), 0);
        c.row("no pair", 0, 1, 7, 7);
        c.fresh("0,0;5,0");
        c.due("two", c.x.spread(), 0);
        c.row("5 by 10", 1, 2, 5, 0);
        c.fresh("0,0;0,0;0,0;0,0;0,0;0,0;0,0;999,0");
        c.due("one has all", c.x.spread(), 0);
        c.row("7 of 8", 7, 8, 999, 0);
        c.x.hide(7, 999);
        c.due("HIDDEN too", c.x.spread(), 0);
        c.row("7 of 8", 7, 8, 999, 0);
        c.fresh("3,0;1,0;2,0");
        c.due("three", c.x.spread(), 0);
        c.row("4 by 18", 2, 9, 3, 1);
    }

    private void spreadNobody() {
        c.says("the ROW: the fraction, the most, the least COIN. 0; -2: nobody has any.");
        c.due("of nobody", c.x.spread(), -2);
        c.row("nothing is told");
        c.fresh("0,0;5,0");
        c.due("0", c.x.spread(), 0);
        c.x.sheet(3, 0, 0, 0);
        c.due("nobody has any", c.x.spread(), -2);
        c.row("the ROW stays", 1, 2, 5, 0);
    }

    // ---- promises 42 to 45

    private void keeping() {
        seeds();
        keepNumbers();
        againAsKept();
        againOfAll();
        againNothingKept();
        againToldSince();
    }

    private void seeds() {
        c.says("R becomes v: what it was.");
        int[] vs = {Integer.MIN_VALUE, -1, 0, 1, Integer.MAX_VALUE};
        int was = 1;
        for (int v : vs) {
            c.due("R", c.x.seed(v), was);
            was = v;
        }
        c.due("R", c.x.seed(1), was);
    }

    private void keepNumbers() {
        c.says("are kept under a number 0 .. 1: true. Refused: others.");
        c.due("0", c.x.keep(0), true);
        c.due("1", c.x.keep(1), true);
        c.due("2", c.x.keep(2), false);
        c.due("-1", c.x.keep(-1), false);
        c.due("the most", c.x.keep(Integer.MAX_VALUE), false);
        c.due("the least", c.x.keep(Integer.MIN_VALUE), false);
        c.fresh("5,0;6,0");
        c.x.keep(0);
        c.x.give(0, 1, 1);
        c.x.keep(1);
        c.x.give(0, 1, 1);
        c.x.keep(2);
        c.due("as under 0", c.x.again(0), true);
        c.due("COIN", c.x.of(0, 0), 5);
        c.due("as under 1", c.x.again(1), true);
        c.due("COIN", c.x.of(0, 0), 4);
        c.due("kept anew", c.x.keep(0), true);
        c.x.give(0, 1, 1);
        c.due("as under 0", c.x.again(0), true);
        c.due("COIN", c.x.of(0, 0), 4);
    }

    private void againAsKept() {
        c.says("COIN, HIDDEN, THE LIST, DEBTS, FAVOURS, what is lent, TODAY, THE LAW, R are kept");
        full();
        c.x.undo();
        c.x.pay(4, 0);
        c.x.noon();
        c.x.days(1);
        c.x.proof(5);
        String was = c.seen();
        c.due("keep", c.x.keep(1), true);
        c.x.sheet(2, 5, 70, -9);
        c.x.hide(1, 4);
        c.x.noon();
        c.x.back();
        c.x.days(3);
        c.x.law(0, 2);
        c.x.law(1, 0);
        c.x.law(2, 1);
        c.x.law(3, 0);
        c.x.seed(5);
        c.x.proof(5);
        c.due("otherwise", c.seen().equals(was), false);
        c.due("again", c.x.again(1), true);
        c.x.proof(5);
        c.due("as it was: " + was, c.seen().equals(was), true);
    }

    private void againOfAll() {
        c.says("They are as they were kept under a number.");
        c.fresh("1,0;2,0;3,0;4,0;5,0;6,0;70,0;200,0;d7>0*6@0;d6>0*5@0;d7>0*2@0");
        for (int i = 1; i <= 6; i++) {
            c.x.lend(7, 6, i);
        }
        c.x.pay(6, 0);
        c.due("keep", c.x.keep(1), true);
        String was = c.seen();
        for (int i = 5; i >= 0; i--) {
            c.due("back", c.x.back(), i);
        }
        for (int i = 1; i <= 6; i++) {
            c.due("otherwise", c.x.lend(6, 0, 1), i);
        }
        c.x.pay(5, 1);
        c.x.pay(6, 2);
        c.due("again", c.x.again(1), true);
        c.x.pay(6, 2);
        c.x.undo();
        c.due("to be undone", c.x.count(3), 0);
        c.due("7 owes 6", c.x.favour(7, 6), 6);
        c.due("6 owes 5", c.x.favour(6, 5), 0);
        c.due("paid by none", c.x.debt(1, 5), -1);
        c.due("paid by 6", c.x.debt(0, 5), 6);
        for (int i = 5; i >= 0; i--) {
            int had = c.x.of(7, 0);
            c.due("back", c.x.back(), i);
            c.due("what was lent so", c.x.of(7, 0) - had, i + 1);
        }
        c.due("again", c.x.again(1), true);
        c.x.pay(5, 1);
        c.due("again", c.x.again(1), true);
        c.due("as it was, but what can be undone", c.seen().equals(was.replace(" 1 6 291 ", " 0 6 291 ")), true);
    }

    private void againNothingKept() {
        c.says("They are as they were kept under a number. Refused: nothing kept");
        c.fresh("5,0;6,0");
        c.due("0", c.x.again(0), false);
        c.due("1", c.x.again(1), false);
        c.x.keep(1);
        c.due("0", c.x.again(0), false);
        c.due("1", c.x.again(1), true);
        c.due("2", c.x.again(2), false);
        c.due("-1", c.x.again(-1), false);
        c.due("the most", c.x.again(Integer.MAX_VALUE), false);
        c.due("the least", c.x.again(Integer.MIN_VALUE), false);
    }

    private void againToldSince() {
        c.says("nothing kept, PEOPLE or DEBTS were told since");
        c.fresh("5,0;6,0");
        c.x.keep(0);
        c.x.keep(1);
        c.due("an empty town", c.town(""), 0);
        c.due("nothing was told", c.x.again(0), true);
        c.due("a wrong town", c.town("5,0;6"), -6);
        c.due("nothing was told", c.x.again(0), true);
        c.due("a DEBT", c.town("d0>1*1@0"), 1);
        c.due("DEBTS were told", c.x.again(0), false);
        c.due("kept anew", c.x.keep(0), true);
        c.due("as kept anew", c.x.again(0), true);
        c.due("one", c.town("1,0"), 1);
        c.due("PEOPLE were told", c.x.again(0), false);
        c.due("both were told", c.x.again(1), false);
    }

    // ---- promises 46 and 47

    private void counts() {
        countNone();
        countOpen();
        rowNone();
    }

    private void countNone() {
        c.says("NONE for another what.");
        for (int what : new int[] {Integer.MIN_VALUE, -1, 8, Integer.MAX_VALUE}) {
            c.due("what " + what, c.x.count(what), -1);
        }
        for (int what = 0; what < 8; what++) {
            c.due("what " + what, c.x.count(what), 0);
        }
    }

    private void countOpen() {
        c.says("2: those OPEN (bits), 3: PAYMENTS that can be undone, 4: how many are lent, 5: the sum of COIN");
        c.fresh("99,0;90,0;0,0");
        c.town("d0>2*1@0;d0>2*1@0;d0>2*1@0;d0>2*1@0;d0>2*1@0;d0>2*1@0");
        c.town("d0>2*1@0;d0>2*1@0;d0>2*1@0;d0>2*1@0");
        c.due("all ten", c.x.count(2), 1023);
        for (int i = 0; i < 10; i++) {
            c.x.pay(1, i);
            c.due("undone", c.x.count(3), i + 1);
        }
        c.due("none", c.x.count(2), 0);
        c.due("COIN", c.x.count(5), 189);
        c.x.hide(0, 99);
        c.due("HIDDEN too", c.x.count(5), 189);
        for (int i = 1; i <= 6; i++) {
            c.x.lend(1, 0, 1);
            c.due("lent", c.x.count(4), i);
        }
        c.fresh("99,0;98,0;0,0;d0>2*99@0;d0>2*1@1");
        c.x.days(1);
        c.due("not the LAPSED one", c.x.count(2), 2);
    }

    private void rowNone() {
        c.says("Number i of the ROW. NoSuchElementException: none such.");
        c.none("0 of nothing", () -> c.x.row(0));
        c.fresh("0,0;5,0");
        c.x.spread();
        c.due("the last", c.x.row(3), 0);
        c.due("the first", c.x.row(0), 1);
        c.none("4", () -> c.x.row(4));
        c.none("-1", () -> c.x.row(-1));
        c.none("the most", () -> c.x.row(Integer.MAX_VALUE));
        c.none("the least", () -> c.x.row(Integer.MIN_VALUE));
        c.x.all(0);
        c.none("0 of an empty one", () -> c.x.row(0));
    }
}
