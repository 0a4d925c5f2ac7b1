/** Promises 36 to 41. */
public final class DaysTest {
    private static final String FOUR = "10,0;50,20;100,10!;5,5;d2>3*20@0;d1>0*8@1;d2>1*60@0";

    private final Check c = new Check("DaysTest");

    public static void main(String[] args) {
        DaysTest test = new DaysTest();
        test.lowest();
        test.lapse();
        test.lapseLate();
        test.days();
        test.order();
        test.noonOfDays();
        test.byRule();
        test.best();
        test.pays();
        test.paysRefused();
        test.spread();
        test.c.finish();
    }

    private void lowest() {
        c.fresh("10,0;5,0;5,3;7,0;d1>0*3@9;d2>0*4@9;d0>1*2@9;d2>3*1@9");
        c.due("the first of two", c.x.lowest(), 1);
        c.row("two, three DEBTS", 6, 11);
        c.x.hide(0, 6);
        c.due("who hides", c.x.lowest(), 0);
        c.row("one DEBT", 1, 4);
        c.x.law(2, 1);
        c.due("as it came", c.x.lowest(), 1);
        c.x.noon();
        c.due("at noon", c.x.lowest(), 0);
        c.fresh("3,0");
        c.due("one alone", c.x.lowest(), 0);
        c.row("owes nothing", 1, 0);
        c.fresh();
        c.due("nobody", c.x.lowest(), -2);
        c.row("nothing told");
    }

    private void lapse() {
        c.fresh(FOUR);
        c.due("none", c.x.lapse(0), 0);
        c.row("0", 0);
        c.due("the third", c.x.lapse(1), 4);
        c.row("60", 60);
        c.due("the third", c.x.lapse(60), 4);
        c.due("nothing changes", c.x.today() + c.x.count(2), 7);
        c.due("-1", c.x.lapse(-1), -1);
        c.due("61", c.x.lapse(61), -1);
        c.row("the ROW stays", 60);
        c.x.hide(1, 50);
        c.due("nobody pays", c.x.lapse(1), 5);
        c.row("80", 80);
        c.x.days(1);
        c.due("not those that LAPSED already", c.x.lapse(9), 2);
        c.row("8", 8);
    }

    private void lapseLate() {
        c.fresh("9,0;5,0;0,0;d0>2*50@3");
        c.due("not DUE", c.x.lapse(3), 0);
        c.due("DUE", c.x.lapse(4), 1);
        c.x.law(3, 2);
        c.due("not yet LATE", c.x.lapse(5), 0);
        c.due("LATE", c.x.lapse(6), 1);
        c.x.days(5);
        c.due("OPEN", c.x.debt(0, 4), 0);
        c.x.law(3, 99);
        c.x.days(60);
        c.due("OPEN for long", c.x.debt(0, 4), 0);
        c.x.days(37);
        c.due("TODAY", c.x.today(), 102);
        c.due("OPEN yet", c.x.debt(0, 4), 0);
        c.x.days(1);
        c.due("LAPSED", c.x.debt(0, 4), 2);
    }

    private void days() {
        c.fresh(FOUR);
        c.due("none", c.x.days(0), 0);
        c.row("0", 0, 0);
        c.due("-1", c.x.days(-1), -1);
        c.due("61", c.x.days(61), -1);
        c.due("TODAY", c.x.today(), 0);
        c.due("two", c.x.days(2), 2);
        c.row("24 and 8, one LAPSED", 32, 1);
        c.due("TODAY", c.x.today(), 2);
        c.due("FAVOUR", c.x.favour(2, 1), 24);
        c.due("FAVOUR", c.x.favour(1, 3), 8);
        c.due("by 3", c.x.debt(1, 5), 3);
        c.due("LAPSED", c.x.debt(2, 4), 2);
        c.due("COIN", c.x.of(3, 0) * 100 + c.x.of(0, 0), 1718);
        c.due("sixty", c.x.days(60), 0);
        c.due("TODAY", c.x.today(), 62);
        c.town("d2>3*2@5");
        c.due("DUE long ago", c.x.days(1), 1);
    }

    private void order() {
        c.fresh("99,0;10,0;0,0;d0>2*10@1;d0>2*6@0");
        c.x.law(3, 9);
        c.x.hide(1, 10);
        c.due("none", c.x.days(1), 0);
        c.x.hide(1, 0);
        c.due("one", c.x.days(1), 1);
        c.due("by DUE", c.x.count(2), 1);
        c.fresh("99,0;10,0;0,0;d0>2*6@0;d0>2*10@0;d0>2*4@0");
        c.due("two", c.x.days(1), 2);
        c.row("6 and 4, 10 LAPSED", 10, 1);
        c.due("by number", c.x.debt(1, 4), 2);
        // what is got on a DAY is paid with on it: 2 by who got it just now
        c.fresh("99,0;10,0;0,0;0,0;d0>3*9@0;d0>2*10@0");
        c.due("the second is too much", c.x.days(1), 1);
        c.fresh("99,0;10,0;0,0;0,0;d0>2*10@0;d0>3*9@0");
        c.due("both", c.x.days(1), 2);
        c.due("by 1, by 2", c.x.debt(0, 5) * 10 + c.x.debt(1, 5), 12);
    }

    private void noonOfDays() {
        c.fresh("20,0;30,0;0,0;d0>2*10@0;d0>2*5@1");
        c.x.law(2, 1);
        c.x.give(1, 2, 15);
        c.due("nobody by THE LIST as it came", c.x.may(0), 0);
        c.due("noon first", c.x.days(1), 1);
        c.due("THE LIST of noon, not behind it", c.x.of(1, 4) * 100 + c.x.of(1, 0), 1505);
        c.fresh("20,0;15,0;0,0;d0>2*10@0;d2>0*3@0");
        c.x.law(2, 1);
        c.due("2 has 0 at noon", c.x.days(1), 1);
        c.fresh("20,0;15,0;0,0;d0>2*10@0;d2>0*3@0");
        c.due("2 has 10 now", c.x.days(1), 2);
        c.fresh("20,0;15,0;0,0");
        c.x.give(0, 2, 7);
        c.x.days(1);
        c.x.law(2, 1);
        c.due("noon by any law", c.x.of(2, 4), 7);
    }

    private void byRule() {
        c.fresh("99,0;10,0;20,90;0,0;d0>3*9@0;d0>3*9@1");
        c.rule("p");
        c.due("who asks", c.x.days(2), 2);
        c.row("17 each", 34, 0);
        c.due("by 2", c.x.debt(1, 5), 2);
        c.fresh("99,0;10,0;20,90;0,0;d0>3*9@0;d0>3*9@1");
        c.rule("c-12");
        c.due("who keeps 12 at least", c.x.days(2), 1);
        c.row("one LAPSED", 17, 1);
        c.fresh("99,0;10,0;20,90;0,0;d0>3*9@0;d0>3*9@1");
        c.rule("0-f");
        c.due("who is owed nothing", c.x.days(2), 2);
        c.due("by 1, by 2", c.x.debt(0, 5) * 10 + c.x.debt(1, 5), 12);
    }

    private void best() {
        c.fresh(FOUR);
        c.due("the first of equal ones", c.x.best(2), 0);
        c.row("of each", 28, 28, 8, 28);
        c.due("no DAY", c.x.best(0), 0);
        c.row("of each", 0, 0, 0, 0);
        c.due("one DAY", c.x.best(1), 0);
        c.row("of each", 20, 20, 0, 20);
        c.due("nothing changes", c.x.today() + c.x.count(2) + c.x.law(0, 0), 7);
        c.due("-1", c.x.best(-1), -1);
        c.due("61", c.x.best(61), -1);
        c.row("the ROW stays", 20, 20, 0, 20);
        c.fresh("10,0;20,0;0,0;d0>2*15@0");
        c.due("who has more", c.x.best(1), 2);
        c.row("of each", 0, 0, 15, 0);
        // less pays 5 and 5; the next less has but 9
        c.fresh("30,0;20,0;9,0;0,0;d1>3*9@0;d0>3*15@0");
        c.x.law(1, 21);
        c.due("less", c.x.best(1), 0);
        c.row("of each", 24, 24, 9, 0);
    }

    private void pays() {
        c.fresh("50,0;60,50;0,0;d0>2*20@0");
        c.due("45 is less than 50: 30 for 20", c.x.pays(1, 15, 1), 10);
        c.due("50 is not", c.x.pays(1, 10, 1), 0);
        c.due("20 is enough", c.x.pays(1, 40, 1), 10);
        c.due("19 is not", c.x.pays(1, 41, 1), 0);
        c.due("no DAY", c.x.pays(1, 15, 0), 0);
        c.due("nothing HIDDEN", c.x.pays(1, 0, 1), 0);
        c.due("all HIDDEN", c.x.pays(1, 60, 60), 0);
        c.x.hide(1, 15);
        c.due("than if nothing was HIDDEN", c.x.pays(1, 15, 1), 10);
        c.due("nothing HIDDEN", c.x.pays(1, 0, 1), 0);
        c.due("it stays HIDDEN", c.x.of(1, 3) + c.x.today(), 15);
        c.fresh("50,0;50,50;0,0;d0>2*20@0");
        c.due("one HIDDEN is enough", c.x.pays(1, 1, 1), 10);
        c.x.hide(1, 1);
        c.due("than if nothing was HIDDEN", c.x.pays(1, 0, 1), 0);
        c.fresh("50,0;45,50;0,0;d0>2*20@0");
        c.due("less", c.x.pays(1, 30, 1), -10);
        c.due("who owes it", c.x.pays(0, 10, 1), 0);
        c.due("who owes it bars it for who gets it", c.x.pays(0, 5, 1), 0);
        c.fresh("50,0;45,50;0,0;d2>0*20@0;d0>2*20@0");
        c.due("who gets it gets it", c.x.pays(2, 0, 1), 0);
        c.fresh("50,0;45,50!;0,0;d0>2*20@0");
        c.due("KIND: 20 less if it pays", c.x.pays(1, 45, 1), 20);
    }

    private void paysRefused() {
        c.fresh("50,0;60,50;0,0;d0>2*20@0");
        c.none("nobody", () -> c.x.pays(3, 0, 1));
        c.none("nobody", () -> c.x.pays(-1, 0, 1));
        c.none("more than its COIN", () -> c.x.pays(1, 61, 1));
        c.none("below 0", () -> c.x.pays(1, -1, 1));
        c.none("n -1", () -> c.x.pays(1, 0, -1));
        c.none("n 61", () -> c.x.pays(1, 0, 61));
        c.row("nothing told");
    }

    private void spread() {
        c.fresh(FOUR);
        c.due("spread", c.x.spread(), 0);
        c.row("325 by 660", 65, 132, 100, 5);
        c.x.hide(2, 100);
        c.x.spread();
        c.row("COIN, HIDDEN too", 65, 132, 100, 5);
        c.fresh("7,0;7,0");
        c.x.spread();
        c.row("alike", 0, 1, 7, 7);
        c.fresh("7,0");
        c.x.spread();
        c.row("alone", 0, 1, 7, 7);
        c.fresh("0,0;5,0");
        c.x.spread();
        c.row("one has all", 1, 2, 5, 0);
        c.x.sheet(3, 0, 0, 0);
        c.due("nobody has any", c.x.spread(), -2);
        c.row("the ROW stays", 1, 2, 5, 0);
    }
}
