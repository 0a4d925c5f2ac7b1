/** Every call where there is no more room: eight of PEOPLE, ten DEBTS, six lent, 80 signs. */
public final class FullTest {
    private static final String EIGHT = "80,0;70,10;60,20!;50,30;40,40;30,50;20,60;10,70";
    private static final int NINE = 511;

    private final Check c = new Check("FullTest");

    public static void main(String[] args) {
        FullTest test = new FullTest();
        test.asking();
        test.rows();
        test.parts();
        test.days();
        test.changing();
        test.lending();
        test.kept();
        test.signs();
        test.c.finish();
    }

    /** 7 has least, and owes nine DEBTS; the tenth can be paid by it alone. */
    private void full() {
        c.fresh(EIGHT);
        c.due("five", c.town("d7>0*1@0;d7>0*1@0;d7>0*1@0;d7>0*1@0;d7>0*1@0"), 5);
        c.due("five", c.town("d7>0*1@0;d7>0*1@0;d7>0*1@0;d7>0*1@0;d6>0*5@0"), 5);
    }

    private void asking() {
        c.says("PEOPLE 0 .. (at most 8)");
        full();
        c.due("of what it is owed", c.x.of(0, 6), 14);
        c.due("of what it owes", c.x.of(7, 5), 9);
        c.due("of what 6 owes", c.x.of(6, 5), 5);
        c.due("THE LIST", c.x.of(7, 4), 10);
        c.due("who is BELOW 0", c.x.below(0), 254);
        c.due("who is BELOW 7", c.x.below(7), 0);
        c.due("who may", c.x.may(9), 128);
        c.row("5 and 3", 8, 7);
        c.due("nobody may", c.x.may(8), 0);
        c.due("who is WILLING", c.x.willing(9), 7);
        c.due("nobody is", c.x.willing(0), -2);
        c.due("judge", c.x.judge(2, 0x0797), 1);
        c.row("the first", 8, 5);
        c.due("gift", c.x.gift(0), 6);
        c.row("14 against 16", 6, 64);
        c.due("poorer", c.x.poorer(6, 0), 6);
        c.row("to who owes it", 7);
        c.due("poorer", c.x.poorer(1, 0), 31);
        c.due("poorer who owes it", c.x.poorer(7, 0), -2);
        c.rule("g");
        c.due("7 owes nothing to 6", c.x.willing(9), 7);
        c.row("0", 0);
        c.rule("o");
        c.due("7 owes 9", c.x.willing(9), 7);
        c.row("9", 9);
        c.x.law(2, 1);
        c.due("no gift", c.x.gift(0), -2);
        c.due("none poorer", c.x.poorer(6, 0), -2);
    }

    private void rows() {
        c.says("DEBTS 0 .. (at most 10)");
        full();
        c.due("most", c.x.most(0), 1);
        c.row("most", 5, 2);
        c.due("all", c.x.all(0), -2);
        c.due("never", c.x.never(0), NINE);
        c.due("ways", c.x.ways(0), 0);
        c.due("ahead", c.x.ahead(9, 0), 0);
        c.due("ahead", c.x.ahead(8, 0), -2);
        c.due("fewest", c.x.fewest(0), -2);
        c.due("nine by six are too many", c.x.sorts(0), -3);
        c.x.law(0, 1);
        c.due("most by the next less", c.x.most(0), 1);
        c.x.law(2, 1);
        c.x.law(0, 2);
        c.due("too many", c.x.most(0), -3);
        for (int i = 1; i < 7; i++) {
            c.x.hide(i, i == 3 ? 36 : 80 - 10 * i);
        }
        c.due("3 has 14 for all ten", c.x.most(0), 10);
        c.row("ten", 14, 1024);
        c.due("nine of 1, 1 and 5 and 1", c.x.all(0), 15);
        c.row("ten", 3, 13, 23, 33, 43, 53, 63, 73, 83, 93);
        c.due("10!", c.x.ways(0), 3628800);
        c.row("all but 3", 247);
        c.due("fewest", c.x.fewest(0), 1);
        c.row("3", 8);
        c.due("never", c.x.never(0), 0);
        c.due("ahead", c.x.ahead(9, 0), 0);
        c.due("sorts", c.x.sorts(0), 2);
        c.row("of each", 1, 1, 10, 1);
    }

    private void parts() {
        c.says("each pays parts of OPEN DEBTS DUE by a day of those it is BELOW");
        full();
        c.due("flow", c.x.flow(0), 5);
        c.row("nine can't", NINE);
        c.due("proof", c.x.proof(0), 0);
        c.row("the tenth", 5, 512);
        c.due("by more", c.x.gap(2, 0), 9);
        c.x.law(0, 2);
        c.due("flow", c.x.flow(0), 14);
        c.row("all can", 0);
        c.due("proof", c.x.proof(0), 0);
        c.row("all", 14, 1023);
        for (int i = 1; i < 7; i++) {
            c.x.hide(i, i == 3 ? 49 : 80 - 10 * i);
        }
        c.x.law(2, 1);
        c.due("flow of 1", c.x.flow(0), 1);
        c.row("the tenth can't", 512);
        c.due("who have nothing may too", c.x.proof(0), 126);
        c.row("nothing", 0, 0);
    }

    private void days() {
        c.says("by DUE, then by number, one by one");
        full();
        c.due("lowest", c.x.lowest(), 7);
        c.row("nine DEBTS", 128, NINE);
        c.due("lapse", c.x.lapse(1), NINE);
        c.row("nine", 9);
        c.due("best", c.x.best(1), 2);
        c.row("of each", 5, 5, 14, 5);
        c.due("5 of COIN and 8 of FAVOURS", c.x.pays(7, 10, 1), -3);
        c.due("spread", c.x.spread(), 0);
        c.row("840 by 2880", 7, 24, 80, 10);
        c.due("noon", c.x.noon(), 360);
        c.due("days", c.x.days(1), 1);
        c.row("days", 8, 9);
        c.due("none OPEN", c.x.count(2), 0);
        full();
        c.x.law(0, 2);
        c.due("all ten", c.x.days(1), 10);
        c.row("1 and nothing, nine times, 5 and 0", 14, 0);
        c.due("COIN", c.x.of(0, 0), 94);
    }

    private void changing() {
        c.says("COIN of PEOPLE 0, 1, .., as a sheet tells it");
        full();
        c.due("all", c.x.sheet(2, 8, 10, 10), 360);
        c.due("the last", c.x.of(7, 0), 80);
        c.due("noon", c.x.noon(), 360);
        c.due("hide", c.x.hide(7, 80), 0);
        c.due("search", c.x.search(7, 10), 80);
        c.due("gone", c.x.count(5), 280);
        c.due("seven of eight", c.x.sheet(0, 7, 10, 10), 280);
        c.due("pay", c.x.pay(6, 0), -2);
        c.due("give", c.x.give(6, 7, 70), true);
        c.due("pay", c.x.pay(5, 8), 1);
        c.due("FAVOUR", c.x.favour(7, 5), 1);
        c.due("FAVOURS 7 owes", c.x.of(7, 7), 1);
        c.due("undo", c.x.undo(), 0);
        c.due("nets", c.x.nets(), 0);
        c.due("missing", c.x.sheet(3, 8, 1, 1), -3);
        c.due("COIN", c.x.count(5), 0);
    }

    private void lending() {
        c.says("how many are lent then. Refused: others, 6.");
        full();
        for (int i = 1; i <= 6; i++) {
            c.due("lent", c.x.lend(0, 7, i), i);
        }
        c.due("a seventh", c.x.lend(0, 7, 1), -1);
        for (int i = 6; i >= 1; i--) {
            c.due("the last one first", c.x.of(7, 0), 10 + i * (i + 1) / 2);
            c.due("back", c.x.back(), i - 1);
        }
        c.due("as told", c.x.of(7, 0), 10);
    }

    private void kept() {
        c.says("are kept under a number 0 .. 1: true.");
        full();
        c.x.law(0, 2);
        for (int i = 0; i < 10; i++) {
            c.due("pay", c.x.pay(1, i), i == 9 ? 5 : 1);
        }
        c.due("ten can be undone", c.x.count(3), 10);
        c.due("keep", c.x.keep(0), true);
        c.due("keep", c.x.keep(1), true);
        for (int i = 9; i >= 0; i--) {
            c.due("undo", c.x.undo(), i);
        }
        c.due("as told", c.x.of(1, 0) * 100 + c.x.of(0, 0), 7080);
        for (int i = 0; i < 2; i++) {
            c.due("again", c.x.again(i), true);
            c.due("none OPEN", c.x.count(2), 0);
            c.due("COIN", c.x.of(1, 0) * 100 + c.x.of(0, 0), 5694);
            c.due("FAVOURS of 7", c.x.favour(7, 1), 9);
            c.due("FAVOURS of 6", c.x.favour(6, 1), 5);
            c.due("who paid", c.x.debt(9, 5), 1);
            c.due("not to be undone", c.x.undo(), -1);
        }
    }

    private void signs() {
        c.says("THE TEXT has its first n signs alone");
        for (int i = 0; i < 20; i++) {
            c.x.sign('1' << 24 | '1' << 16 | '1' << 8 | '1');
        }
        c.due("80", c.x.count(7), 80);
        c.due("town", c.x.town(), -4);
        for (int i = 0; i < 20; i++) {
            c.x.sign('-' << 24 | '-' << 16 | '-' << 8 | '-');
        }
        c.due("80", c.x.end(80), true);
        c.due("rule", c.x.rule(), -41);
        c.due("0", c.x.count(7), 0);
    }
}
