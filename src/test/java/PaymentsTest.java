/** Promises 13 to 25. */
public final class PaymentsTest {
    private static final String FIVE = "30,0;40,10;50,20!;60,0;20,50;d3>0*20@5;d0>4*25@0";
    private static final String FOUR = "10,0;50,20;100,10!;5,5;d2>3*20@0;d1>0*8@1;d2>1*60@0";

    private final Check c = new Check("PaymentsTest");

    public static void main(String[] args) {
        PaymentsTest test = new PaymentsTest();
        test.below();
        test.belowByOne();
        test.belowByList();
        test.may();
        test.mayByLaw();
        test.willing();
        test.pay();
        test.payRefused();
        test.prices();
        test.undo();
        test.forgotten();
        test.notForgotten();
        test.judge();
        test.favour();
        test.nets();
        test.netsOfTheLast();
        test.give();
        test.lend();
        test.back();
        test.gift();
        test.giftByLaw();
        test.poorer();
        test.poorerByLaw();
        test.c.finish();
    }

    private void belows(String law, int... want) {
        for (int i = 0; i < want.length; i++) {
            c.due("below(" + i + ") " + law, c.x.below(i), want[i]);
        }
    }

    private void below() {
        c.fresh("10,0;20,0;20,0;30,0;5,0");
        belows("has less", 16, 17, 17, 23, 0);
        c.x.law(0, 1);
        belows("has next less", 16, 1, 1, 6, 0);
        c.x.law(0, 2);
        belows("has more", 14, 8, 8, 0, 15);
        c.x.law(0, 3);
        belows("has less by 1", 16, 17, 17, 23, 0);
        c.x.law(1, 10);
        belows("has less by 10", 0, 17, 17, 23, 0);
        c.x.law(1, 11);
        belows("has less by 11", 0, 16, 16, 17, 0);
        c.x.law(1, 0);
        belows("has less by 0", 16, 21, 19, 23, 0);
        c.due("none such", c.x.below(-1), -1);
        c.due("none such", c.x.below(5), -1);
    }

    private void belowByOne() {
        c.fresh("10,0;11,0;12,0");
        belows("has less", 0, 1, 3);
        c.x.law(0, 1);
        belows("has next less", 0, 1, 2);
        c.x.law(0, 2);
        belows("has more", 6, 4, 0);
        c.x.law(0, 3);
        belows("has less by 1", 0, 1, 3);
        c.x.law(1, 2);
        belows("has less by 2", 0, 0, 1);
    }

    private void belowByList() {
        c.fresh("10,0;20,0;30,0");
        c.x.hide(2, 15);
        belows("as it is now", 0, 5, 1);
        c.x.law(2, 1);
        belows("as COIN came", 0, 1, 3);
        c.x.noon();
        belows("at noon", 0, 5, 1);
        c.x.hide(2, 0);
        c.x.give(2, 0, 25);
        belows("at noon still", 0, 5, 1);
        c.x.law(2, 0);
        belows("now", 6, 4, 0);
    }

    private void may() {
        c.fresh(FIVE);
        c.due("by three", c.x.may(0), 22);
        c.row("KIND for nothing", 0, 2);
        c.x.hide(2, 31);
        c.due("by two", c.x.may(0), 18);
        c.row("40 asks 10", 22, 1);
        c.x.hide(2, 30);
        c.due("20 COUNTED are enough", c.x.may(0), 22);
        c.due("none such", c.x.may(2), -1);
        c.due("none such", c.x.may(-1), -1);
        c.row("the ROW stays", 0, 2);
        c.due("only who gets it is BELOW", c.x.may(1), 0);
        c.row("none without");
        c.due("pay", c.x.pay(4, 0), 30);
        c.due("not OPEN", c.x.may(0), 0);
        c.row("none");
        c.fresh("9,10;9,5;9,5;9,0;80,0;d4>3*9@0");
        c.due("of equal PRICES", c.x.may(0), 7);
        c.row("9 * 5 / 100 is 0", 9, 0);
        c.fresh("90,10;90,5;90,5;9,0;99,0;d4>3*60@0");
        c.due("of equal PRICES", c.x.may(0), 7);
        c.row("the first", 63, 1);
    }

    private void mayByLaw() {
        c.fresh(FIVE);
        c.x.law(0, 1);
        c.due("the next below 60", c.x.may(0), 4);
        c.due("the next below 30 gets it", c.x.may(1), 0);
        c.x.law(0, 2);
        c.due("more than 60", c.x.may(0), 0);
        c.due("more than 30", c.x.may(1), 14);
        c.row("KIND", 0, 2);
        c.x.law(0, 3);
        c.x.law(1, 20);
        c.due("40 at most", c.x.may(0), 18);
        c.row("10 asked of 20", 22, 1);
        c.x.law(0, 0);
        c.x.law(2, 1);
        c.x.give(1, 3, 30);
        c.due("as it was told, but COUNTED now", c.x.may(0), 20);
        c.x.give(4, 3, 20);
        c.due("as it was told, but COUNTED now", c.x.may(0), 4);
    }

    private void willing() {
        c.fresh(FIVE);
        c.due("no rule", c.x.willing(0), 1);
        c.row("0", 0);
        c.rule("c");
        c.due("most COUNTED", c.x.willing(0), 2);
        c.row("50", 50);
        c.x.hide(2, 10);
        c.due("of equal ones the first", c.x.willing(0), 1);
        c.row("40", 40);
        c.rule("p-25");
        c.due("0 at least", c.x.willing(0), 4);
        c.row("5", 5);
        c.rule("p-30");
        c.due("just 0", c.x.willing(0), 4);
        c.row("0", 0);
        c.rule("p-31");
        c.due("all below 0", c.x.willing(0), -2);
        c.row("the ROW stays", 0);
        c.due("nobody may", c.x.willing(1), -2);
        c.due("none such", c.x.willing(2), -1);
        c.due("none such", c.x.willing(-1), -1);
        c.rule("g");
        c.due("0 owes none to 3", c.x.willing(0), 1);
        c.town("d4>3*7@9");
        c.due("4 owes one to 3", c.x.willing(0), 4);
        c.row("1", 1);
        c.rule("o");
        c.due("4 owes 7", c.x.willing(0), 4);
        c.row("7", 7);
    }

    private void pay() {
        c.fresh(FIVE);
        c.due("PRICE", c.x.pay(1, 0), 22);
        c.due("COIN of who paid", c.x.of(1, 0), 20);
        c.due("COIN of who gets it", c.x.of(0, 0), 50);
        c.due("COIN of who owed it", c.x.of(3, 0), 60);
        c.due("PAID", c.x.debt(0, 4), 1);
        c.due("by 1", c.x.debt(0, 5), 1);
        c.due("FAVOUR", c.x.favour(3, 1), 22);
        c.due("the other way", c.x.favour(1, 3), 0);
        c.due("to be undone", c.x.count(3), 1);
        c.due("OPEN", c.x.count(2), 2);
        c.due("now 0 has 50, and 1 20", c.x.pay(2, 1), -2);
        c.due("FAVOURS it is owed", c.x.of(1, 8), 22);
        c.fresh(FIVE);
        c.due("by who is KIND", c.x.pay(2, 0), 0);
        c.due("COIN goes all the same", c.x.of(2, 0), 30);
        c.due("no FAVOUR", c.x.favour(3, 2), 0);
        c.fresh("99,0;50,0;50,0;d0>2*10@0;d0>2*20@90");
        c.due("first", c.x.pay(1, 0), 10);
        c.due("not DUE yet", c.x.pay(1, 1), 20);
        c.due("FAVOURS are summed", c.x.favour(0, 1), 30);
    }

    private void payRefused() {
        c.fresh(FIVE);
        c.x.spread();
        c.due("who owes it", c.x.pay(3, 0), -2);
        c.due("who gets it", c.x.pay(0, 0), -2);
        c.due("not BELOW", c.x.pay(3, 1), -2);
        c.due("nobody", c.x.pay(5, 0), -1);
        c.due("nobody", c.x.pay(-1, 0), -1);
        c.due("no DEBT", c.x.pay(1, 2), -1);
        c.due("no DEBT", c.x.pay(1, -1), -1);
        c.x.hide(1, 21);
        c.due("too little COUNTED", c.x.pay(1, 0), -2);
        c.x.hide(1, 20);
        c.due("just enough", c.x.pay(1, 0), 22);
        c.due("nothing COUNTED is left", c.x.of(1, 4), 0);
        c.due("PAID already", c.x.pay(4, 0), -2);
        c.due("four numbers yet", c.x.count(6), 4);
        c.x.days(9);
        c.due("LAPSED", c.x.debt(1, 4), 2);
        c.x.sheet(2, 5, 90, -5);
        c.due("LAPSED", c.x.pay(1, 1), -2);
    }

    private void prices() {
        c.fresh("99,0;50,50;50,99;50,0;50,99!;50,1;d0>3*7@0;d0>3*1@0;d0>3*49@0;d0>3*2@0");
        c.due("7 and 3", c.x.pay(1, 0), 10);
        c.due("1 and 0", c.x.pay(2, 1), 1);
        c.due("49 and 48", c.x.pay(2, 2), 97);
        c.due("KIND", c.x.pay(4, 3), 0);
        c.x.undo();
        c.due("2 and 0", c.x.pay(5, 3), 2);
    }

    private void undo() {
        c.fresh(FIVE);
        c.due("nothing", c.x.undo(), -1);
        c.x.pay(4, 0);
        c.due("second", c.x.pay(1, 1), 27);
        c.due("two", c.x.count(3), 2);
        c.due("one left", c.x.undo(), 1);
        c.due("COIN of who paid", c.x.of(1, 0), 40);
        c.due("COIN of who gets it", c.x.of(4, 0), 0);
        c.due("FAVOUR", c.x.favour(0, 1), 0);
        c.due("OPEN", c.x.debt(1, 4), 0);
        c.due("paid by none", c.x.debt(1, 5), -1);
        c.due("FAVOUR of the other one", c.x.favour(3, 4), 30);
        c.due("again", c.x.pay(1, 1), 27);
        c.due("undone", c.x.undo(), 1);
        c.due("none left", c.x.undo(), 0);
        c.due("COIN", c.x.of(4, 0) * 100 + c.x.of(0, 0), 2030);
        c.due("nothing", c.x.undo(), -1);
        for (int i = 0; i < 20; i++) {
            c.x.pay(1, 0);
            c.due("undone", c.x.undo(), 0);
        }
    }

    private interface Change {
        void make();
    }

    private void behind(String what, int want, Change change) {
        c.fresh(FIVE);
        c.x.keep(0);
        c.x.pay(4, 0);
        c.x.pay(1, 1);
        change.make();
        c.due("to be undone behind " + what, c.x.count(3), want);
        c.due("undo behind " + what, c.x.undo(), want - 1);
    }

    private void forgotten() {
        behind("town", 0, () -> c.town("5,5"));
        behind("sheet", 0, () -> c.x.sheet(2, 0, 0, 0));
        behind("missing sheet", 0, () -> c.x.sheet(3, 0, 0, 0));
        behind("no days", 0, () -> c.x.days(0));
        behind("days", 0, () -> c.x.days(3));
        behind("search", 0, () -> c.x.search(0, 10));
        behind("search for nothing", 0, () -> c.x.search(0, 0));
        behind("give", 0, () -> c.x.give(0, 1, 1));
        behind("lend", 0, () -> c.x.lend(0, 1, 1));
        behind("hide", 0, () -> c.x.hide(0, 0));
        behind("noon", 0, () -> c.x.noon());
        behind("nets", 0, () -> c.x.nets());
        behind("again", 0, () -> c.x.again(0));
        c.fresh(FIVE);
        c.x.lend(3, 2, 1);
        c.x.pay(4, 0);
        c.due("back", c.x.back(), 0);
        c.due("forgotten by back", c.x.undo(), -1);
    }

    private void notForgotten() {
        behind("an empty town", 2, () -> c.town(""));
        behind("a wrong town", 2, () -> c.town("5,5;"));
        behind("sheet of less than nothing", 2, () -> c.x.sheet(2, -1, 0, 0));
        behind("sheet refused", 2, () -> c.x.sheet(2, 9, 0, 0));
        behind("days refused", 2, () -> c.x.days(61));
        behind("search refused", 2, () -> c.x.search(0, 11));
        behind("give refused", 2, () -> c.x.give(0, 1, 999));
        behind("lend refused", 2, () -> c.x.lend(0, 0, 1));
        behind("back refused", 2, () -> c.x.back());
        behind("hide refused", 2, () -> c.x.hide(0, 999));
        behind("again refused", 2, () -> c.x.again(1));
        behind("law", 2, () -> c.x.law(0, 2));
        behind("rule", 2, () -> c.rule("c"));
        behind("seed", 2, () -> c.x.seed(9));
        behind("keep", 2, () -> c.x.keep(0));
        behind("asking", 2, () -> {
            c.x.judge(1, 0);
            c.x.lapse(60);
            c.x.best(60);
            c.x.pays(0, 1, 9);
            c.x.sorts(9);
            c.x.all(9);
            c.x.gap(2, 9);
        });
        c.fresh(FIVE);
        c.x.lend(3, 4, 1);
        c.x.pay(4, 0);
        c.x.pay(1, 1);
        c.x.undo();
        c.due("pay again", c.x.pay(2, 1), -2);
        c.due("one", c.x.count(3), 1);
    }

    private void judge() {
        c.fresh(FIVE);
        c.due("both", c.x.judge(2, 0x1104), -2);
        c.row("both", 57, 45);
        c.due("the other way round", c.x.judge(2, 0x0411), 0);
        c.row("nothing", 0, 0);
        c.due("one twice", c.x.judge(3, 0x021104), 2);
        c.row("till then", 57, 45);
        c.due("what stands behind n is not read", c.x.judge(1, 0x1104), -2);
        c.row("one", 30, 20);
        c.due("none", c.x.judge(0, -1), -2);
        c.row("none", 0, 0);
        c.due("no such DEBT", c.x.judge(4, 0xF0F01104), 2);
        c.due("nobody such", c.x.judge(4, 0x00000F04), 1);
        c.row("one", 30, 20);
        c.due("n -1", c.x.judge(-1, 0), -1);
        c.due("n 5", c.x.judge(5, 0), -1);
        c.row("the ROW stays", 30, 20);
        c.due("nothing changes", c.x.count(2) * 1000 + c.x.of(4, 0) * 10 + c.x.count(3), 3200);
        c.fresh("99,0;50,0;50,0;d0>2*1@0;d0>2*2@0;d0>2*3@0;d0>2*4@0");
        c.due("four", c.x.judge(4, 0x01112131), -2);
        c.row("four", 10, 10);
        c.due("four, the last one as who owes it", c.x.judge(4, 0x00112131), 3);
        c.row("three", 9, 9);
    }

    private void favour() {
        c.fresh(FIVE);
        c.x.pay(1, 0);
        c.due("3 owes 1", c.x.favour(3, 1), 22);
        c.due("1 owes 3", c.x.favour(1, 3), 0);
        c.due("like ones", c.x.favour(1, 1), -1);
        c.due("nobody", c.x.favour(5, 1), -1);
        c.due("nobody", c.x.favour(1, 5), -1);
        c.due("nobody", c.x.favour(-1, 1), -1);
        c.due("nobody", c.x.favour(1, -1), -1);
    }

    private void nets() {
        c.fresh("50,0;40,0;10,0;0,0;d0>2*10@0;d1>2*7@0;d0>2*3@0");
        c.due("nothing to set off", c.x.nets(), 0);
        c.due("1 pays for 0", c.x.pay(1, 0), 10);
        c.due("one way only", c.x.nets(), 0);
        c.x.give(0, 1, 30);
        c.due("0 pays for 1", c.x.pay(0, 1), 7);
        c.x.give(1, 0, 50);
        c.due("2 gets it", c.x.pay(2, 2), -2);
        c.due("1 pays for 0", c.x.pay(1, 2), 3);
        c.due("7 of each", c.x.nets(), 14);
        c.due("0 owes 1 the rest", c.x.favour(0, 1), 6);
        c.due("1 owes 0 nothing", c.x.favour(1, 0), 0);
        c.due("again", c.x.nets(), 0);
        c.due("nothing to undo", c.x.undo(), -1);
        c.fresh("50,0;40,0;30,0;0,0;d0>3*10@0;d1>3*7@0;d2>3*4@0;d0>3*4@0");
        c.x.pay(2, 1);
        c.x.pay(1, 0);
        c.x.pay(2, 3);
        c.x.sheet(2, 4, 10, 10);
        c.x.pay(0, 2);
        c.due("of 0 and 2 alone, not round", c.x.nets(), 8);
        c.due("0 owes 1", c.x.favour(0, 1), 10);
        c.due("1 owes 2", c.x.favour(1, 2), 7);
        c.due("0 and 2", c.x.favour(0, 2) + c.x.favour(2, 0), 0);
    }

    private void netsOfTheLast() {
        c.fresh("0,0;40,0;20,0;50,0;d1>0*7@0;d2>0*4@0;d3>1*9@0;d1>3*2@0;d1>2*2@0");
        c.due("2 for 1", c.x.pay(2, 0), 7);
        c.x.sheet(2, 4, 0, 10);
        c.due("1 for 2", c.x.pay(1, 1), 4);
        c.due("2 for 3", c.x.pay(2, 2), 9);
        c.x.sheet(2, 4, 70, -20);
        c.due("3 for 1", c.x.pay(3, 4), 2);
        c.due("1 and 2 alone", c.x.nets(), 8);
        c.due("1 owes 2", c.x.favour(1, 2) * 10 + c.x.favour(2, 1), 30);
        c.due("3 owes 2", c.x.favour(3, 2) * 10 + c.x.favour(2, 3), 90);
        c.due("1 owes 3", c.x.favour(1, 3) * 10 + c.x.favour(3, 1), 20);
    }

    private void give() {
        c.fresh("10,0;20,0");
        c.x.hide(1, 5);
        c.due("all COUNTED", c.x.give(1, 0, 15), true);
        c.due("COIN", c.x.of(0, 0) * 100 + c.x.of(1, 0), 2505);
        c.due("what is HIDDEN", c.x.give(1, 0, 1), false);
        c.due("0", c.x.give(0, 1, 0), false);
        c.due("below 0", c.x.give(0, 1, -1), false);
        c.due("to itself", c.x.give(0, 0, 1), false);
        c.due("nobody", c.x.give(2, 0, 1), false);
        c.due("nobody", c.x.give(0, 2, 1), false);
        c.due("nobody", c.x.give(-1, 0, 1), false);
        c.due("nobody", c.x.give(0, -1, 1), false);
        c.due("more", c.x.give(0, 1, 26), false);
        c.due("COIN", c.x.of(0, 0) * 100 + c.x.of(1, 0), 2505);
        c.fresh("999,0;999,0");
        c.due("more than 999", c.x.give(0, 1, 999), true);
        c.due("COIN", c.x.of(1, 0), 1998);
    }

    private void lend() {
        c.fresh("10,0;20,0");
        c.x.hide(1, 5);
        c.due("first", c.x.lend(1, 0, 10), 1);
        c.due("COIN", c.x.of(0, 0) * 100 + c.x.of(1, 0), 2010);
        c.due("more than COUNTED", c.x.lend(1, 0, 6), -1);
        c.due("0", c.x.lend(1, 0, 0), -1);
        c.due("to itself", c.x.lend(1, 1, 1), -1);
        c.due("nobody", c.x.lend(2, 1, 1), -1);
        c.due("nobody", c.x.lend(1, 2, 1), -1);
        for (int i = 2; i <= 6; i++) {
            c.due("lent", c.x.lend(0, 1, 1), i);
        }
        c.due("seventh", c.x.lend(0, 1, 1), -1);
        c.due("six", c.x.count(4), 6);
        c.due("COIN", c.x.of(0, 0) * 100 + c.x.of(1, 0), 1515);
    }

    private void back() {
        c.fresh("10,0;20,0;0,0");
        c.due("nothing", c.x.back(), -1);
        c.x.lend(0, 1, 4);
        c.x.lend(1, 2, 24);
        c.x.give(2, 0, 1);
        c.due("not as much", c.x.back(), -2);
        c.due("still two", c.x.count(4), 2);
        c.x.give(0, 2, 2);
        c.x.hide(2, 2);
        c.due("not as much COUNTED", c.x.back(), -2);
        c.x.hide(2, 1);
        c.due("the last first", c.x.back(), 1);
        c.due("COIN", c.x.of(1, 0) * 100 + c.x.of(2, 0), 2401);
        c.due("then the first", c.x.back(), 0);
        c.due("COIN", c.x.of(0, 0) * 100 + c.x.of(1, 0), 920);
        c.due("nothing", c.x.back(), -1);
        c.x.lend(1, 0, 20);
        c.due("DAYS leave it", c.x.days(2) + c.x.count(4), 1);
    }

    private void gift() {
        c.fresh(FOUR);
        c.x.spread();
        c.due("somebody may now", c.x.gift(0), 0);
        c.due("no gift does", c.x.gift(2), -2);
        c.due("the ROW stays", c.x.count(6), 4);
        c.due("100 - 26 is less than 50 + 26", c.x.gift(1), 26);
        c.row("from 2, who may pay then", 2, 4);
        c.due("nothing changes", c.x.of(1, 0), 50);
        c.due("none such", c.x.gift(3), -1);
        c.due("none such", c.x.gift(-1), -1);
        c.x.pay(1, 0);
        c.due("not OPEN", c.x.gift(0), -1);
        c.fresh("10,0;20,0;20,0;8,0;d0>3*5@0");
        c.due("14 is less than 16", c.x.gift(0), 6);
        c.row("the first of equal ones", 1, 2);
        c.fresh("20,0;10,0;20,0;8,0;d1>3*5@0");
        c.due("of equal ones 0 is first", c.x.gift(0), 6);
        c.row("from 0, who may pay itself", 0, 1);
        c.fresh("10,0;20,0;20,0;50,0;d0>3*15@0");
        c.due("14 is not enough: the other one pays", c.x.gift(0), 11);
        c.row("from one, by the other one", 1, 4);
        c.fresh("10,0;15,0;0,0;50,0;d0>3*15@0");
        c.due("who gets it gives", c.x.gift(0), 6);
        c.row("from 3", 3, 2);
        c.x.hide(3, 45);
        c.due("5 COUNTED to be given", c.x.gift(0), -2);
        c.x.hide(3, 44);
        c.due("6 COUNTED to be given", c.x.gift(0), 6);
    }

    private void giftByLaw() {
        c.fresh("10,0;20,0;20,0;8,0;d0>3*5@0");
        c.x.law(0, 3);
        c.x.law(1, 5);
        c.due("by 5", c.x.gift(0), 8);
        c.x.law(1, 7);
        c.due("by 7", c.x.gift(0), 9);
        c.x.law(0, 2);
        c.due("who has more may now", c.x.gift(0), 0);
        c.x.law(0, 1);
        c.due("next less: 14 under 16, 8 under 14", c.x.gift(0), 6);
        c.x.law(0, 0);
        c.x.law(2, 1);
        c.due("at noon no gift counts", c.x.gift(0), -2);
        c.fresh("10,0;20,0;20,0;8,0;d0>3*5@0");
        c.x.law(0, 1);
        c.x.give(3, 1, 8);
        c.x.give(2, 1, 5);
        c.due("33, 15, 10 owes, 0", c.x.gift(0), 3);
        c.row("13 owes, 12", 2, 4);
    }

    private void poorer() {
        c.fresh("10,0;20,0;20,0;8,0;d0>3*5@0");
        c.due("14 is less than 16", c.x.poorer(1, 0), 6);
        c.row("to who owes it", 0);
        c.due("who owes it", c.x.poorer(0, 0), -2);
        c.due("who gets it", c.x.poorer(3, 0), -2);
        c.row("the ROW stays", 0);
        c.due("nobody", c.x.poorer(4, 0), -1);
        c.due("none such", c.x.poorer(1, 1), -1);
        c.due("nobody", c.x.poorer(-1, 0), -1);
        c.due("none such", c.x.poorer(1, -1), -1);
        c.x.hide(1, 9);
        c.due("11 COUNTED: 1 given", c.x.poorer(1, 0), 1);
        c.row("to who owes it", 0);
        c.x.hide(1, 11);
        c.due("it may now", c.x.poorer(1, 0), 0);
        c.x.pay(1, 0);
        c.due("not OPEN", c.x.poorer(2, 0), -1);
        c.fresh("7,0;10,0;10,0;3,0;d2>3*9@0");
        c.due("one", c.x.poorer(1, 0), 1);
        c.row("the first of equal ones", 0);
        c.fresh("7,0;10,0;10,0;3,0;d2>3*10@0");
        c.due("not enough is left", c.x.poorer(1, 0), -2);
    }

    private void poorerByLaw() {
        c.fresh("30,0;10,0;25,0;0,0;d0>3*5@0");
        c.x.law(0, 1);
        c.due("25 becomes 30", c.x.poorer(1, 0), 5);
        c.row("to who stands between", 2);
        c.x.law(0, 2);
        c.due("to be richer", c.x.poorer(1, 0), -2);
        c.x.law(0, 3);
        c.x.law(1, 23);
        c.due("30 + 2 and 10 - 2 are 24 apart", c.x.poorer(1, 0), 2);
        c.x.law(1, 20);
        c.due("by 20 now", c.x.poorer(1, 0), 0);
        c.x.law(1, 29);
        c.due("30 + 5 and 10 - 5", c.x.poorer(1, 0), 5);
        c.x.law(1, 31);
        c.due("30 + 6 and 4: too little", c.x.poorer(1, 0), -2);
        c.x.law(2, 1);
        c.x.law(1, 29);
        c.due("at noon nothing helps", c.x.poorer(1, 0), -2);
    }
}
