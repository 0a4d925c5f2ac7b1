/** Promises 26 to 32. */
public final class RowsTest {
    private static final String FOUR = "10,0;50,20;100,10!;5,5;d2>3*20@0;d1>0*8@1;d2>1*60@0";
    private static final String TWO_PAY = "100,0;50,50;50,0;0,0;d0>3*20@0;d0>3*40@1";
    /** 1 or 3 pay DEBT 0; only behind 1 somebody pays DEBT 1, and then DEBT 2. */
    private static final String CHAIN = "100,0;10,0;0,0;7,0;0,0;d0>2*5@0;d3>4*3@0;d4>3*2@0";

    private final Check c = new Check("RowsTest");

    public static void main(String[] args) {
        RowsTest test = new RowsTest();
        test.nothingDue();
        test.most();
        test.mostByLaw();
        test.mostOfSums();
        test.all();
        test.allOfEqual();
        test.allOfCutPrices();
        test.allByOrder();
        test.never();
        test.ways();
        test.ahead();
        test.fewest();
        test.fewestWithWhoGets();
        test.fewestOfMany();
        test.sorts();
        test.threeThousand();
        test.otherwiseThanBefore();
        test.refused();
        test.c.finish();
    }

    private void nothingDue() {
        for (String town : new String[] {"5,0", "9,0;5,0;0,0;d0>2*5@7"}) {
            c.fresh(town);
            int people = c.x.count(0);
            c.due("most", c.x.most(6), 0);
            c.row("most", 0, 1);
            c.due("all", c.x.all(6), 0);
            c.row("all");
            c.due("never", c.x.never(6), 0);
            c.due("ways", c.x.ways(6), 1);
            c.row("everybody pays in none", (1 << people) - 1);
            c.due("fewest", c.x.fewest(6), 0);
            c.row("fewest", 0);
            c.due("sorts", c.x.sorts(6), 0);
            c.row("sorts", 0, 0, 0, 0);
        }
        c.due("not of these", c.x.ahead(0, 6), -2);
        c.due("of these", c.x.ahead(0, 7), 0);
    }

    private void most() {
        c.fresh(FOUR);
        c.due("DUE by 0", c.x.most(0), 1);
        c.row("20 of them, 2 states", 20, 2);
        c.due("DUE by 1", c.x.most(1), 2);
        c.row("28 of them, 3 states", 28, 3);
        c.due("DUE by 99", c.x.most(99), 2);
        c.due("nothing changes", c.x.count(2) * 1000 + c.x.of(1, 0), 7050);
        c.x.pay(1, 0);
        c.due("those OPEN", c.x.most(1), 1);
        c.row("8 of them, 2 states", 8, 2);
        c.x.days(1);
        c.due("the third LAPSED", c.x.never(1), 0);
        c.fresh(TWO_PAY);
        c.due("both", c.x.most(1), 2);
        c.row("7 states", 60, 7);
        c.due("one", c.x.most(0), 1);
        c.row("3 states", 20, 3);
        c.fresh(CHAIN);
        c.due("chain", c.x.most(0), 3);
        c.row("chain", 10, 7);
    }

    private void mostByLaw() {
        c.fresh(FOUR);
        c.x.hide(1, 31);
        c.due("too little COUNTED", c.x.most(0), 0);
        c.row("nothing", 0, 1);
        c.x.hide(1, 0);
        c.x.law(0, 2);
        c.due("by who has more", c.x.most(1), 1);
        c.row("the second by 2", 8, 2);
        c.fresh(TWO_PAY);
        c.x.law(0, 1);
        c.x.hide(2, 10);
        c.due("by the next less", c.x.most(1), 2);
        c.row("1, then 2; or 1, then 1 not", 60, 5);
        c.fresh(CHAIN);
        c.x.law(2, 1);
        c.due("by THE LIST as it came", c.x.most(0), 2);
        c.row("2 stays below 3, and 4 below nobody", 8, 5);
    }

    private void mostOfSums() {
        // 1 can pay 30, or 10 and 10: the most are two, the greatest sum is that of one
        c.fresh("99,0;30,0;0,0;d0>2*30@0;d0>2*10@0;d0>2*10@0");
        c.due("two", c.x.most(0), 2);
        c.row("30, and 5 states", 30, 5);
        c.due("never all", c.x.all(0), -2);
        c.due("each is in some", c.x.never(0), 0);
    }

    private void all() {
        c.fresh(TWO_PAY);
        c.due("30 and 40", c.x.all(1), 70);
        c.row("by 1, by 2", 1, 12);
        c.due("20", c.x.all(0), 20);
        c.row("by 2", 2);
        c.fresh("100,0;50,50!;50,0;0,0;d0>3*20@0;d0>3*40@1");
        c.due("20 and nothing", c.x.all(1), 20);
        c.row("by 2, by 1", 2, 11);
        c.fresh(CHAIN);
        c.due("chain", c.x.all(0), 10);
        c.row("chain", 1, 11, 21);
        c.fresh("100,0;10,99;0,0;7,0;0,0;d0>2*5@0;d3>4*3@0;d4>3*2@0");
        c.due("1 asks", c.x.all(0), 14);
        c.row("2 is less", 1, 12, 22);
        c.fresh(FOUR);
        c.x.spread();
        c.due("not all", c.x.all(1), -2);
        c.due("the ROW stays", c.x.count(6), 4);
    }

    private void allOfEqual() {
        c.fresh("100,0;50,0;50,0;0,0;d0>3*20@0;d0>3*40@1");
        c.due("60", c.x.all(1), 60);
        c.row("the least row", 1, 12);
        c.fresh("99,0;50,0;0,0;50,0;d0>2*1@0;d0>2*1@0;d0>2*1@0;d0>2*1@0;d0>2*1@0;d0>2*1@0");
        c.town("d0>2*1@0;d0>2*1@0;d0>2*1@0;d0>2*1@9");
        c.due("nine", c.x.all(0), 9);
        c.row("nine", 1, 11, 21, 31, 41, 51, 61, 71, 81);
        c.due("9! orders, 2 each", c.x.ways(0), 362880L * 512);
        c.row("0 and 2 never", 5);
        c.due("of ten too many", c.x.all(9), -3);
        c.x.give(1, 2, 50);
        c.due("ten", c.x.all(9), 10);
        c.row("ten", 3, 13, 23, 33, 43, 53, 63, 73, 83, 93);
        c.due("10! orders", c.x.ways(9), 3628800);
        c.row("0 to 2 never", 7);
        // what comes first must wait: DEBT 0 has its payer behind DEBT 1 alone
        c.fresh("20,0;30,0;0,0;50,0;d0>3*10@0;d3>2*15@0");
        c.due("25", c.x.all(0), 25);
        c.row("the other one first", 11, 1);
    }

    private void allOfCutPrices() {
        // to one and the same state: half of 1 is cut to 0, half of 2 is 1
        c.fresh("99,0;50,0;50,50;0,0;d0>3*1@0;d0>3*1@0;d0>3*2@0");
        c.x.hide(1, 48);
        c.x.hide(2, 48);
        c.due("2 pays 1 and 1", c.x.all(0), 4);
        c.row("2 pays 1 and 1", 2, 12, 21);
        c.due("six orders of two", c.x.ways(0), 12);
    }

    private void allByOrder() {
        // the cheaper row begins with the greater number
        c.fresh("99,0;50,99;50,0;0,0;d0>3*10@0;d0>3*20@0");
        c.due("by 2", c.x.all(0), 30);
        c.row("by 2", 2, 12);
        c.fresh("9,0;99,0;5,9;5,0;5,9;5,0;5,9;5,0;d1>0*5@0;d7>0*5@0;d1>7*5@0");
        c.due("not the second ahead of the third", c.x.all(0), 15);
        c.row("7 must have more than who pays for it; 0 pays with what it got", 2, 20, 13);
    }

    private void otherwiseThanBefore() {
        c.fresh("99,0;0,0;50,0;d0>1*40@0;d0>1*30@1");
        c.due("by 2", c.x.most(0), 1);
        c.due("another day", c.x.most(1), 1);
        c.row("three states", 40, 3);
        c.due("the first day", c.x.ways(0), 1);
        c.town("60,0");
        c.due("one more", c.x.ways(0), 2);
        c.town("d0>1*20@0");
        c.due("one more", c.x.ways(0), 6);
        c.x.hide(2, 1);
        c.due("COUNTED 49", c.x.ways(0), 6);
        c.x.give(2, 1, 30);
        c.due("19 of 2", c.x.ways(0), 2);
        c.x.give(3, 0, 1);
        c.due("59 of 3", c.x.ways(0), 0);
        c.x.give(0, 3, 1);
        c.x.pay(3, 2);
        c.due("PAID", c.x.ways(0), 1);
        c.x.undo();
        c.due("OPEN", c.x.ways(0), 2);
        c.x.law(0, 3);
        c.x.law(1, 39);
        c.due("by 39", c.x.ways(0), 2);
        c.x.law(1, 40);
        c.due("by 40: the 40 first, or the 20", c.x.ways(0), 0);
        c.x.law(1, 1);
        c.due("by 1", c.x.ways(0), 2);
        c.x.law(2, 1);
        c.due("at noon", c.x.ways(0), 2);
        c.x.give(0, 3, 50);
        c.x.sheet(2, 4, 49, 37);
        c.due("at noon, as it came", c.x.ways(0), 8);
        c.x.noon();
        c.due("0 has least", c.x.ways(0), 0);
        c.x.law(2, 0);
        c.due("0 has least", c.x.ways(0), 0);
        c.x.law(0, 2);
        c.due("who has more", c.x.ways(0), 8);
        c.x.hide(0, 49);
        c.due("who has more", c.x.ways(0), 8);
        c.x.days(1);
        c.due("PAID", c.x.ways(0), 1);
        c.fresh("9,0;8,0;0,0;d0>2*8@0;d1>2*1@0");
        c.due("one of two", c.x.never(0), 2);
        c.x.hide(0, 1);
        c.due("0 has 8 COUNTED", c.x.never(0), 3);
        c.x.hide(0, 0);
        c.x.law(0, 2);
        c.due("0 has more", c.x.never(0), 1);
        c.x.pay(0, 1);
        c.x.law(0, 0);
        c.due("0 has 8", c.x.never(0), 1);
        c.x.give(2, 0, 1);
        c.due("1 can pay", c.x.never(0), 0);
        c.x.pay(1, 0);
        c.due("all PAID", c.x.ways(0), 1);
        c.x.undo();
        c.due("OPEN", c.x.ways(0) + c.x.never(0) + c.x.most(0), 2);
        c.fresh("9,0;5,0;0,0;d0>2*50@0");
        c.due("never", c.x.never(0), 1);
        c.x.days(1);
        c.due("LAPSED", c.x.never(0), 0);
    }

    private void never() {
        c.fresh(FOUR);
        c.due("the third", c.x.never(1), 4);
        c.due("the third", c.x.never(0), 4);
        c.fresh(CHAIN);
        c.due("none", c.x.never(0), 0);
        c.x.hide(1, 6);
        c.due("1 can pay the second alone", c.x.never(0), 4);
        c.x.hide(1, 8);
        c.due("behind 3 nobody", c.x.never(0), 6);
        c.x.hide(3, 3);
        c.due("nobody", c.x.never(0), 7);
        c.due("without such", c.x.never(0) + c.x.count(6), 7);
    }

    private void ways() {
        c.fresh(TWO_PAY);
        c.due("four", c.x.ways(1), 4);
        c.row("0 and 3 never", 9);
        c.due("two", c.x.ways(0), 2);
        c.fresh(CHAIN);
        c.due("two", c.x.ways(0), 2);
        c.row("0, 3 and 4 never", 25);
        c.x.hide(1, 6);
        c.x.spread();
        c.due("none leads there", c.x.ways(0), 0);
        c.due("the ROW stays", c.x.count(6), 4);
    }

    private void ahead() {
        c.fresh(FOUR);
        c.due("8 needs 20", c.x.ahead(1, 1), 1);
        c.due("20 needs none", c.x.ahead(0, 1), 0);
        c.due("it never is", c.x.ahead(2, 1), -2);
        c.due("not DUE by 0", c.x.ahead(1, 0), -2);
        c.due("none such", c.x.ahead(3, 1), -1);
        c.due("none such", c.x.ahead(-1, 1), -1);
        c.x.pay(1, 0);
        c.due("not OPEN", c.x.ahead(0, 1), -2);
        c.due("needs none of these", c.x.ahead(1, 1), 0);
        c.fresh(CHAIN);
        c.due("none", c.x.ahead(0, 0), 0);
        c.due("the first", c.x.ahead(1, 0), 1);
        c.due("both", c.x.ahead(2, 0), 3);
        c.x.town();
        c.town("d0>2*5@0");
        c.due("one like it would do", c.x.ahead(1, 0), 0);
    }

    private void fewest() {
        c.fresh(TWO_PAY);
        c.due("both", c.x.fewest(1), 2);
        c.row("1 and 2", 6);
        c.due("one", c.x.fewest(0), 1);
        c.row("the least", 2);
        c.fresh(CHAIN);
        c.due("one does all", c.x.fewest(0), 1);
        c.row("1", 2);
        c.x.spread();
        c.x.hide(1, 6);
        c.due("they can't", c.x.fewest(0), -2);
        c.due("the ROW stays", c.x.count(6), 4);
    }

    private void fewestWithWhoGets() {
        c.fresh("30,0;40,0;9,0;0,0;3,0;d1>3*20@0;d1>4*10@0");
        c.due("0 pays both", c.x.fewest(0), 1);
        c.row("0", 1);
        c.due("0, 0; or 0, 3", c.x.ways(0), 3);
        c.row("1, 2 and 4 never", 22);
        c.x.hide(0, 10);
        c.due("4 gets 10 too late, 3 gets 20 in time", c.x.fewest(0), 2);
        c.row("0 and 3", 9);
        c.due("0, then 3", c.x.ways(0), 1);
        c.row("1, 2 and 4 never", 22);
        c.fresh("0,0;0,0;0,0;90,0;5,0;0,0;d3>0*4@0;d3>0*2@0");
        c.due("4 has 5", c.x.most(0), 1);
        c.due("not 6", c.x.fewest(0), -2);
    }

    private void fewestOfMany() {
        // DEBT 0 by 6 or 7 alone, DEBT 1 by all of less: 2 .. 5 and who has paid
        c.fresh("99,0;0,0;5,0;5,0;5,0;5,0;80,0;80,0;d0>1*70@0;d0>1*5@0");
        c.due("one of the last", c.x.fewest(0), 1);
        c.row("6", 64);
        c.x.hide(6, 6);
        c.due("6 has 4 left", c.x.fewest(0), 1);
        c.row("7", 128);
        c.x.hide(7, 6);
        c.due("two", c.x.fewest(0), 2);
        c.row("2 and 6", 68);
        c.x.hide(6, 11);
        c.row("2 and 6", 68);
        c.due("two", c.x.fewest(0), 2);
        c.row("2 and 7", 132);
    }

    private void sorts() {
        c.fresh(FOUR);
        c.due("DUE by 1", c.x.sorts(1), 0);
        c.row("of each", 2, 2, 1, 2);
        c.due("THE LAW stays", c.x.law(0, 2), 0);
        c.due("whatever holds", c.x.sorts(1), 0);
        c.fresh("10,0;20,0;0,0;d0>2*15@0");
        c.due("more alone", c.x.sorts(0), 2);
        c.row("of each", 0, 0, 1, 0);
        c.fresh("30,0;20,0;25,0;0,0;d0>3*9@0;d0>3*15@0;d0>3*10@0");
        c.x.law(1, 6);
        c.due("first of equal ones", c.x.sorts(0), 0);
        c.row("who gets it comes between", 3, 2, 0, 2);
        c.x.law(1, 12);
        c.due("by 12", c.x.sorts(0), 0);
        c.row("of each", 3, 2, 0, 0);
        c.x.law(1, 5);
        c.due("by 5", c.x.sorts(0), 0);
        c.row("of each", 3, 2, 0, 3);
    }

    private void threeThousand() {
        // DEBT 0 has 5 payers, the next three have 4, two have 1: 6 * 5 * 5 * 5 * 2 * 2 states
        c.fresh("999,0;700,0;100,0;200,0;300,0;400,0;500,0");
        c.town("d0>1*1@0;d6>1*2@0;d6>1*4@0;d6>1*8@0;d3>1*16@0;d3>1*32@0");
        c.town("d3>1*3@1");
        c.due("six", c.x.most(0), 6);
        c.row("3000 states", 63, 3000);
        c.due("all", c.x.all(0), 63);
        c.row("all by 2", 2, 12, 22, 32, 42, 52);
        c.due("720 orders, 5 * 4 * 4 * 4 payers", c.x.ways(0), 230400);
        c.row("0 and 1 never", 3);
        c.due("never", c.x.never(0), 0);
        c.due("ahead", c.x.ahead(5, 0), 0);
        c.due("fewest", c.x.fewest(0), 1);
        c.row("2", 4);
        c.due("sorts", c.x.sorts(0), 0);
        c.row("of each", 6, 5, 5, 6);
        c.due("most of more", c.x.most(1), -3);
        c.due("all of more", c.x.all(1), -3);
        c.due("never of more", c.x.never(1), -3);
        c.due("ways of more", c.x.ways(1), -3);
        c.due("ahead of more", c.x.ahead(0, 1), -3);
        c.due("fewest of more", c.x.fewest(1), -3);
        c.due("sorts of more", c.x.sorts(1), -3);
        c.row("the ROW stays", 6, 5, 5, 6);
        c.x.law(0, 1);
        c.due("few by this sort", c.x.most(1), 6);
        c.due("sorts of more by one", c.x.sorts(1), -3);
        c.due("NONE ahead of -3", c.x.ahead(7, 1), -1);
        c.due("ways of less", c.x.ways(0), 0);
    }

    private void refused() {
        c.fresh(TWO_PAY);
        c.x.spread();
        for (int day = -1; day <= 100; day += 101) {
            c.due("most", c.x.most(day), -1);
            c.due("all", c.x.all(day), -1);
            c.due("never", c.x.never(day), -1);
            c.due("ways", c.x.ways(day), -1);
            c.due("ahead", c.x.ahead(0, day), -1);
            c.due("fewest", c.x.fewest(day), -1);
            c.due("sorts", c.x.sorts(day), -1);
        }
        c.due("most of the least day", c.x.most(Integer.MIN_VALUE), -1);
        c.due("the ROW stays", c.x.count(6), 4);
        c.due("day 99", c.x.ahead(0, 99), 0);
        c.due("none such", c.x.ahead(2, 1), -1);
        c.due("none such", c.x.ahead(2, -1), -1);
    }
}
