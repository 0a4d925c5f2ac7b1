/** Promises 33 to 35. */
public final class PartsTest {
    private static final String FOUR = "10,0;50,20;100,10!;5,5;d2>3*20@0;d1>0*8@1;d2>1*60@0";
    /** DEBT 0 by 1 and 2, DEBT 1 by 2 and 3, DEBT 2 by 1 and 3. */
    private static final String RING = "90,0;30,0;20,0;0,0;d0>3*25@0;d0>1*30@0;d0>2*40@5";

    private final Check c = new Check("PartsTest");

    public static void main(String[] args) {
        PartsTest test = new PartsTest();
        test.flow();
        test.flowByList();
        test.proof();
        test.gap();
        test.nothing();
        test.refused();
        test.c.finish();
    }

    private void flow() {
        c.fresh(FOUR);
        c.due("20 of 1, 10 of 0, 5 of 3", c.x.flow(1), 35);
        c.row("the second and the third", 6);
        c.due("DUE by 0", c.x.flow(0), 35);
        c.row("the third", 4);
        c.due("nothing changes", c.x.of(1, 0) + c.x.count(2), 57);
        c.x.pay(1, 0);
        c.due("OPEN ones", c.x.flow(1), 35);
        c.row("the third", 4);
        c.fresh(RING);
        c.due("all COIN", c.x.flow(5), 50);
        c.row("30 of 20, 40 of 30", 6);
        c.due("25 and 20", c.x.flow(4), 45);
        c.row("30 of 20", 2);
        c.x.hide(2, 5);
        c.due("25 and 15", c.x.flow(4), 40);
        c.x.hide(1, 30);
        c.due("15 of 2 alone", c.x.flow(4), 15);
        c.row("none wholly", 3);
        c.fresh("50,0;40,0;0,0;d0>2*40@0");
        c.due("wholly by all it has", c.x.flow(0), 40);
        c.row("it can", 0);
        c.x.hide(1, 1);
        c.due("one less", c.x.flow(0), 39);
        c.row("it can't", 1);
        // 2 must leave DEBT 0 to 1, which can't pay anything else
        c.fresh("90,0;10,0;10,0;0,0;d0>3*10@0;d0>1*10@0");
        c.due("both", c.x.flow(0), 20);
        c.row("each could", 0);
    }

    private void flowByList() {
        c.fresh("50,0;40,0;0,0;d0>2*30@0");
        c.x.law(2, 1);
        c.x.give(1, 2, 15);
        c.due("what it has now", c.x.flow(0), 25);
        c.x.give(2, 1, 15);
        c.x.give(0, 1, 20);
        c.due("as it was told it is BELOW", c.x.flow(0), 30);
        c.x.noon();
        c.due("at noon it was not", c.x.flow(0), 0);
        c.row("none", 1);
        c.x.law(0, 2);
        c.due("by who has more", c.x.flow(0), 30);
        c.row("all", 0);
    }

    private void proof() {
        c.fresh(FOUR);
        c.due("0 and 3", c.x.proof(1), 9);
        c.row("the first DEBT", 20, 1);
        c.fresh(RING);
        c.due("all who may", c.x.proof(5), 14);
        c.row("nothing behind them", 0, 0);
        c.due("2 and 3", c.x.proof(4), 12);
        c.row("the first DEBT", 25, 1);
        c.x.sheet(2, 4, 90, 0);
        c.x.give(0, 3, 5);
        c.due("nobody is BELOW", c.x.proof(4), 0);
        c.row("nothing", 0, 0);
        c.x.sheet(2, 4, 900, -10);
        c.due("enough of all", c.x.proof(5), 0);
        c.row("all", 95, 7);
        c.fresh("50,0;30,0;0,0;d0>2*30@0");
        c.due("of equal ones the least: nobody", c.x.proof(0), 0);
        c.row("the DEBT", 30, 1);
        c.x.hide(1, 1);
        c.due("1", c.x.proof(0), 2);
        c.row("none", 0, 0);
    }

    private void gap() {
        c.fresh(FOUR);
        c.due("who has more: 8", c.x.gap(2, 1), -27);
        c.due("the same", c.x.gap(0, 1), 0);
        c.x.law(0, 2);
        c.due("who has less", c.x.gap(0, 1), 27);
        c.due("THE LAW stays", c.x.law(0, 0), 2);
        c.fresh(RING);
        c.x.law(1, 70);
        c.due("2 alone", c.x.gap(3, 4), -25);
        c.due("1 alone", c.x.gap(1, 4), -20);
        c.x.law(0, 1);
        c.due("1 alone now", c.x.gap(3, 4), -5);
    }

    private void nothing() {
        c.fresh();
        c.due("flow of nobody", c.x.flow(0), 0);
        c.row("none", 0);
        c.due("proof of nobody", c.x.proof(99), 0);
        c.row("none", 0, 0);
        c.due("gap of nobody", c.x.gap(3, 0), 0);
        c.fresh("9,0;5,0;0,0;d0>2*5@7");
        c.due("not DUE", c.x.flow(6), 0);
        c.row("none", 0);
        c.due("not DUE", c.x.proof(6), 0);
        c.due("DUE", c.x.flow(7), 5);
    }

    private void refused() {
        c.fresh(RING);
        c.x.spread();
        for (int day = -1; day <= 100; day += 101) {
            c.due("flow", c.x.flow(day), -1);
            c.due("proof", c.x.proof(day), -1);
            c.due("gap", c.x.gap(1, day), -1);
        }
        c.due("gap of another sort", c.x.gap(4, 1), -1);
        c.due("gap of another sort", c.x.gap(-1, 1), -1);
        c.due("the ROW stays", c.x.count(6), 4);
        c.x.gap(1, 1);
        c.due("gap leaves the ROW", c.x.count(6), 4);
    }
}
