/** Promises 42 to 47. */
public final class KeptTest {
    private final Check c = new Check("KeptTest");

    public static void main(String[] args) {
        KeptTest test = new KeptTest();
        test.today();
        test.seed();
        test.keepAndAgain();
        test.lentAgain();
        test.favoursAgain();
        test.refused();
        test.count();
        test.row();
        test.c.finish();
    }

    private void today() {
        c.fresh();
        c.due("today at first", c.x.today(), 0);
        c.x.days(7);
        c.due("today behind 7", c.x.today(), 7);
        c.x.days(0);
        c.x.lapse(5);
        c.x.best(5);
        c.due("today still", c.x.today(), 7);
    }

    private void seed() {
        c.fresh("9,0");
        c.due("R at first", c.x.seed(-5), 1);
        c.due("R was", c.x.seed(1), -5);
        c.x.search(0, 0);
        c.due("R behind one DRAW", c.x.seed(7), 1103527590);
        c.x.search(0, 11);
        c.x.search(1, 3);
        c.due("no DRAW of refused ones", c.x.seed(2), 7);
    }

    private void keepAndAgain() {
        c.fresh("10,20;60,30;25,0!;70,90;d2>3*20@2;d2>1*8@0;d1>3*5@1");
        c.x.law(0, 3);
        c.x.law(1, 7);
        c.x.law(3, 4);
        c.x.hide(3, 2);
        c.x.lend(3, 0, 5);
        c.x.noon();
        c.x.seed(99);
        c.x.days(1);
        c.due("keep", c.x.keep(0), true);
        int paid = c.x.count(2);
        int coin = c.x.of(0, 0);
        int favours = c.x.of(2, 7);
        int counted = c.x.of(1, 4);
        c.x.back();
        c.x.days(9);
        c.x.law(0, 2);
        c.x.law(1, 9);
        c.x.law(2, 1);
        c.x.law(3, 0);
        c.x.sheet(2, 4, 500, 1);
        c.x.noon();
        c.x.seed(3);
        c.due("again", c.x.again(0), true);
        c.due("DEBTS again", c.x.count(2), paid);
        c.due("COIN again", c.x.of(0, 0), coin);
        c.due("FAVOURS again", c.x.of(2, 7), favours);
        c.due("HIDDEN again", c.x.of(3, 3), 2);
        c.due("lent again", c.x.count(4), 1);
        c.due("TODAY again", c.x.today(), 1);
        c.due("sort again", c.x.law(0, 0), 3);
        c.due("BY again", c.x.law(1, 0), 7);
        c.due("THE LIST again", c.x.of(1, 4), counted);
        c.due("noon again", c.x.law(2, 1), 0);
        c.due("THE LIST of noon again, as it was ahead of the DAY", c.x.of(1, 4), 60);
        c.x.law(2, 0);
        c.due("LATE again", c.x.law(3, 0), 4);
        c.due("R again", c.x.seed(0), 99);
        c.due("a second time", c.x.again(0), true);
        c.due("given back", c.x.back(), 0);
    }

    private void lentAgain() {
        c.fresh("10,0;60,0;25,0");
        for (int i = 1; i <= 6; i++) {
            c.x.lend(1, 2 * (i % 2), i);
        }
        c.x.keep(1);
        for (int i = 5; i >= 0; i--) {
            c.due("back", c.x.back(), i);
        }
        for (int i = 1; i <= 6; i++) {
            c.due("otherwise", c.x.lend(0, 1, 1), i);
        }
        c.due("again", c.x.again(1), true);
        c.due("six", c.x.count(4), 6);
        for (int i = 5; i >= 0; i--) {
            c.due("back", c.x.back(), i);
            c.due("the last one's COIN first", c.x.of(1, 0), 60 - i * (i + 1) / 2);
        }
        c.due("as it was", c.x.of(0, 0) * 100 + c.x.of(2, 0), 1025);
    }

    private void favoursAgain() {
        c.fresh("1,0;2,0;3,0;4,0;5,0;6,0;7,0;90,0;d7>0*6@0;d6>0*5@0;d7>0*2@0");
        c.x.pay(6, 0);
        c.x.give(7, 6, 9);
        c.x.pay(5, 1);
        c.x.keep(0);
        c.x.keep(1);
        c.x.pay(6, 2);
        c.x.give(6, 7, 3);
        c.due("again", c.x.again(0), true);
        c.due("7 owes 6", c.x.favour(7, 6), 6);
        c.due("6 owes 5", c.x.favour(6, 5), 5);
        c.due("OPEN", c.x.count(2), 4);
        c.due("paid by", c.x.debt(0, 5) * 10 + c.x.debt(1, 5), 65);
        c.due("paid by none", c.x.debt(2, 5), -1);
        c.due("COIN", c.x.of(7, 0) * 100 + c.x.of(6, 0), 8110);
        c.x.keep(0);
        c.x.give(7, 6, 1);
        c.due("the other one is its own", c.x.again(1), true);
        c.due("COIN", c.x.of(7, 0), 81);
    }

    private void refused() {
        c.fresh("10,20;60,30;25,0!;d1>0*5@0");
        c.due("nothing kept", c.x.again(0), false);
        c.due("nothing kept", c.x.again(1), false);
        c.due("number -1", c.x.keep(-1), false);
        c.due("number 2", c.x.keep(2), false);
        c.due("kept under 1", c.x.keep(1), true);
        c.due("number 2", c.x.again(2), false);
        c.due("number -1", c.x.again(-1), false);
        c.due("0 still not kept", c.x.again(0), false);
        c.due("pay", c.x.pay(2, 0), 0);
        c.due("refused leaves what can be undone", c.x.count(3), 1);
        c.due("again forgets", c.x.again(1), true);
        c.due("nothing to undo", c.x.undo(), -1);
        c.due("a wrong town", c.town("5,5;"), -5);
        c.due("again behind a wrong town", c.x.again(1), true);
        c.due("DEBT told", c.town("d0>1*3@5"), 1);
        c.due("DEBTS told since", c.x.again(1), false);
        c.due("kept anew", c.x.keep(1), true);
        c.due("one told", c.town("5,5"), 1);
        c.due("PEOPLE told since", c.x.again(1), false);
        c.due("THE RULE is not kept", c.rule("c"), 0);
        c.due("kept anew", c.x.keep(1), true);
        c.due("another rule", c.rule("7"), 0);
        c.due("again", c.x.again(1), true);
        c.due("willing", c.x.willing(0), 2);
        c.row("the rule of now", 7);
    }

    private void count() {
        c.fresh();
        for (int what = 0; what < 8; what++) {
            c.due("count " + what + " of a new object", c.x.count(what), 0);
        }
        c.due("count -1", c.x.count(-1), -1);
        c.due("count 8", c.x.count(8), -1);
        c.fresh("10,20;60,30;25,0!;d1>0*5@0;d0>1*9@3");
        c.x.pay(2, 0);
        c.x.pay(2, 1);
        c.due("PEOPLE", c.x.count(0), 3);
        c.due("DEBTS", c.x.count(1), 2);
        c.due("OPEN", c.x.count(2), 2);
        c.due("to undo", c.x.count(3), 1);
        c.due("lent", c.x.lend(1, 0, 3), 1);
        c.due("lent counted", c.x.count(4), 1);
        c.due("COIN", c.x.count(5), 95);
        c.x.proof(5);
        c.due("numbers of the ROW", c.x.count(6), 2);
        c.x.sign(7);
        c.due("signs", c.x.count(7), 4);
    }

    private void row() {
        c.fresh("10,20;60,30;25,0!;d1>0*5@0;d0>1*9@3");
        c.none("row 0 of nothing", () -> c.x.row(0));
        c.x.spread();
        c.none("row -1", () -> c.x.row(-1));
        c.none("row 4", () -> c.x.row(4));
        c.due("row 3", c.x.row(3), 10);
        c.x.most(100);
        c.x.days(61);
        c.x.favour(0, 0);
        c.due("refused calls leave the ROW", c.x.row(3), 10);
        c.x.days(0);
        c.row("a later one", 0, 0);
    }
}
