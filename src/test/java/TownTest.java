/** Promises 1 to 12. */
public final class TownTest {
    private static final String FOUR = "10,0;50,20;100,10!;5,5;d2>3*20@0;d1>0*8@1;d2>1*60@0";

    private final Check c = new Check("TownTest");

    public static void main(String[] args) {
        TownTest test = new TownTest();
        test.newObject();
        test.sign();
        test.end();
        test.town();
        test.townBehindTown();
        test.wrongLines();
        test.noSuchPeople();
        test.noRoom();
        test.longTown();
        test.rule();
        test.wrongRules();
        test.longRule();
        test.of();
        test.debt();
        test.law();
        test.sheet();
        test.refusedSheet();
        test.noon();
        test.hide();
        test.search();
        test.c.finish();
    }

    private void newObject() {
        c.fresh();
        c.due("NONE", PaidByPoorer.NONE, -1);
        c.due("PEOPLE", c.x.count(0), 0);
        c.due("DEBTS", c.x.count(1), 0);
        c.due("numbers", c.x.count(6), 0);
        c.none("of nobody", () -> c.x.of(0, 0));
        c.none("no DEBT", () -> c.x.debt(0, 0));
        c.due("sort", c.x.law(0, 0), 0);
        c.due("BY", c.x.law(1, 1), 1);
        c.due("at noon", c.x.law(2, 0), 0);
        c.due("LATE", c.x.law(3, 0), 0);
        c.due("TODAY", c.x.today(), 0);
        c.due("R", c.x.seed(1), 1);
        c.due("below", c.x.below(0), -1);
        c.due("may", c.x.may(0), -1);
        c.due("willing", c.x.willing(0), -1);
        c.due("pay", c.x.pay(0, 0), -1);
        c.due("undo", c.x.undo(), -1);
        c.due("back", c.x.back(), -1);
        c.due("gift", c.x.gift(0), -1);
        c.due("lowest", c.x.lowest(), -2);
        c.due("spread", c.x.spread(), -2);
        c.due("noon", c.x.noon(), 0);
        c.due("sheet", c.x.sheet(2, 8, 5, 5), 0);
        c.due("again", c.x.again(0), false);
        c.due("judge of one", c.x.judge(1, 0), 0);
        c.none("pays", () -> c.x.pays(0, 0, 0));
    }

    private void sign() {
        c.fresh();
        c.due("the highest byte first", c.x.sign(0x31302c35), 4);
        c.due("town", c.x.town(), 1);
        c.due("COIN", c.x.of(0, 0), 10);
        c.due("ASKS", c.x.of(0, 1), 5);
        for (int i = 1; i <= 20; i++) {
            c.due("sign " + i, c.x.sign(0xFFFEFDFC), 4 * i);
        }
        c.due("more than 80", c.x.sign(0x31302c35), -1);
        c.due("still 80", c.x.count(7), 80);
        c.x.end(77);
        c.due("four behind 77", c.x.sign(1), -1);
        c.x.end(76);
        c.due("four behind 76", c.x.sign(1), 80);
        c.due("a sign of 255", c.x.town(), -1);
    }

    private void end() {
        c.fresh();
        c.due("of nothing", c.x.end(0), true);
        c.due("1 of nothing", c.x.end(1), false);
        c.x.sign(0x372c3939);
        c.due("below 0", c.x.end(-1), false);
        c.due("5 of 4", c.x.end(5), false);
        c.due("4 of 4", c.x.end(4), true);
        c.due("3 of 4", c.x.end(3), true);
        c.due("4 of 3", c.x.end(4), false);
        c.due("signs", c.x.count(7), 3);
        c.due("7,9", c.x.town(), 1);
        c.due("ASKS 9", c.x.of(0, 1), 9);
        c.due("the text is empty", c.x.count(7), 0);
        c.due("1 of nothing", c.x.end(1), false);
    }

    private void town() {
        c.fresh();
        c.due("empty", c.town(""), 0);
        c.due("seven lines", c.town(FOUR), 7);
        c.due("PEOPLE", c.x.count(0), 4);
        c.due("DEBTS", c.x.count(1), 3);
        c.due("emptied", c.x.count(7), 0);
        c.fresh();
        c.due("all digits", c.town("999,99!;000,00;7,07;d0>1*99@99;d2>0*01@00"), 5);
        c.due("COIN 999", c.x.of(0, 0), 999);
        c.due("ASKS 99", c.x.of(0, 1), 99);
        c.due("KIND", c.x.of(0, 2), 1);
        c.due("COIN 000", c.x.of(1, 0), 0);
        c.due("not KIND", c.x.of(1, 2), 0);
        c.due("ASKS 07", c.x.of(2, 1), 7);
        c.due("SUM 99", c.x.debt(0, 2), 99);
        c.due("DUE 99", c.x.debt(0, 3), 99);
        c.due("SUM 01", c.x.debt(1, 2), 1);
        c.due("DUE 00", c.x.debt(1, 3), 0);
    }

    private void townBehindTown() {
        c.fresh("10,0");
        c.due("a DEBT with one who comes behind it", c.town("d0>1*3@0;5,0"), -4);
        c.due("nothing came", c.x.count(0) * 10 + c.x.count(1), 10);
        c.due("one who comes ahead of it", c.town("5,0;d0>1*3@0;6,0;d2>1*4@0"), 4);
        c.due("PEOPLE", c.x.count(0), 3);
        c.due("DEBTS", c.x.count(1), 2);
        c.due("nothing of a wrong one", c.town("7,0;8,0;d0>1*3@0;d1>1*3@0"), -21);
        c.due("PEOPLE", c.x.count(0), 3);
        c.due("DEBTS", c.x.count(1), 2);
        c.due("COIN", c.x.count(5), 21);
        c.due("what is wrong came to nobody", c.town("d0>3*3@0"), -4);
        c.due("the next one", c.town("9,0"), 1);
        c.due("its COIN", c.x.of(3, 0), 9);
    }

    private void wrong(String text, int p) {
        c.due("town " + text, c.town(text), -1 - p);
        c.due("nothing of " + text, c.x.count(0) * 100 + c.x.count(1) * 10 + c.x.count(7), 200);
    }

    private void wrongLines() {
        c.fresh("1,1;2,2");
        wrong(";", 0);
        wrong("x", 0);
        wrong(" 1,1", 0);
        wrong("D0>1*1@1", 0);
        wrong(",1", 0);
        wrong("1", 1);
        wrong("12x", 2);
        wrong("1;", 1);
        wrong("1234,1", 3);
        wrong("1,", 2);
        wrong("1,!", 2);
        wrong("1,123", 4);
        wrong("1,1!!", 4);
        wrong("1,1!1", 4);
        wrong("1,1;", 4);
        wrong("1,1;;1,1", 4);
        wrong("1,1,1", 3);
        wrong("d", 1);
        wrong("d0", 2);
        wrong("d01", 2);
        wrong("d0>", 3);
        wrong("d0>1", 4);
        wrong("d0>1*", 5);
        wrong("d0>1*@", 5);
        wrong("d0>1*1", 6);
        wrong("d0>1*123@1", 7);
        wrong("d0>1*1@", 7);
        wrong("d0>1*1@;", 7);
        wrong("d0>1*1@123", 9);
        wrong("d0>1*1@1!", 8);
        wrong("d0>1*1@1;d", 10);
        wrong("1,1;d0>1*0@1", 9);
        wrong("d0>1*00@1", 6);
        wrong("d0>1*0", 5);
        wrong("d0>1*00", 6);
        wrong("d0>1*0x", 5);
        wrong("d0>1*000", 6);
        wrong("d0>1*01x", 7);
        wrong("1,1\0", 3);
    }

    private void noSuchPeople() {
        c.fresh("1,1;2,2");
        wrong("d2>1*1@1", 1);
        wrong("d9>1*1@1", 1);
        wrong("dx>1*1@1", 1);
        wrong("d0>0*1@1", 3);
        wrong("d1>1*1@1", 3);
        wrong("d0>2*1@1", 3);
        wrong("3,3;d0>3*1@1", 7);
        wrong("3,3;d3>0*1@1", 5);
        c.due("the third", c.town("3,3;d0>2*1@1"), 2);
    }

    private void noRoom() {
        c.fresh();
        c.due("nine", c.town("1,1;1,1;1,1;1,1;1,1;1,1;1,1;1,1;1,1"), -33);
        c.due("nobody", c.x.count(0), 0);
        c.due("eight", c.town("1,1;1,1;1,1;1,1;1,1;1,1;1,1;1,1"), 8);
        c.due("one more", c.town("1,1"), -1);
        c.due("one more behind a DEBT", c.town("d0>1*1@0;x"), -10);
        c.due("one more behind a DEBT", c.town("d0>1*1@0;1,1"), -10);
        c.due("eight DEBTS", c.town("d0>1*1@0;d0>1*1@0;d0>1*1@0;d0>1*1@0;d0>1*1@0;d0>1*1@0;d0>1*1@0;d0>7*1@0"), 8);
        c.due("three more", c.town("d0>1*1@0;d0>1*1@0;d0>1*1@0"), -19);
        c.due("two more", c.town("d0>1*1@0;d0>1*1@0"), 2);
        c.due("no eleventh", c.town("d0>1*1@0"), -1);
        c.due("no eleventh, however it goes on", c.town("dx"), -1);
        c.due("DEBTS", c.x.count(1), 10);
    }

    private void longTown() {
        String people = "100,10!;100,10!;100,10!;100,10;100,10;100,10;100,10;100,10;";
        c.fresh(people + "d0>1*1@1;d0>1*1@1");
        c.due("76 signs", c.x.count(0) * 10 + c.x.count(1), 82);
        c.fresh();
        c.due("77, the first 76 could end", c.town(people + "d0>1*1@1;d0>1*1@11"), -77);
        c.due("77 that go on wrongly", c.town(people + "d0>1*1@1;d0>1*1@1x"), -77);
        c.due("80, the first 76 could go on", c.town(people + "d0>1*1@1;d0>1*12@1;d0"), -77);
        c.due("76 that could go on", c.town(people + "d0>1*1@1;d0>1*12@"), -77);
        c.due("80 with a wrong one among the first 76", c.town(people + "d0>1*1@1;d0>8*12@1;d0"), -72);
        c.due("80 with the 76th wrong", c.town(people + "d0>1*1@1;d0>1*1@x000"), -76);
        c.due("SUM 05 that stands as 0 in the first 76", c.town(people + "d0>1*10@11;d0>1*05@1"), -76);
        c.due("SUM 15 that stands as 1 there", c.town(people + "d0>1*10@11;d0>1*15@1"), -77);
        c.due("a LINE without room at 76", c.town(people + "d0>1*11@1;d0>1*1;"), -76);
        c.due("nobody", c.x.count(0), 0);
    }

    private void worth(String rule, int person, int debt, int want) {
        c.due("rule " + rule, c.rule(rule), 0);
        c.due("willing by " + rule, c.x.willing(debt), person);
        if (person >= 0) {
            c.row("willing by " + rule, want);
        }
    }

    private void rule() {
        // 1 alone may pay DEBT 0: it has 20, asks 50, is owed a FAVOUR of 4, and owes 2 + 7
        c.fresh("90,0;23,50;30,0;0,0;0,0;d0>3*9@0;d1>3*2@0;d1>0*7@0;d2>4*3@0");
        c.due("pay", c.x.pay(1, 3), 4);
        c.x.give(2, 0, 30);
        c.due("1 alone", c.x.may(0), 2);
        worth("i", 1, 0, 1);
        worth("c", 1, 0, 20);
        c.x.hide(1, 3);
        worth("c", 1, 0, 17);
        worth("a", 1, 0, 50);
        worth("s", 1, 0, 9);
        worth("p", 1, 0, 13);
        worth("f", 1, 0, 4);
        worth("o", 1, 0, 9);
        worth("g", 1, 0, 1);
        worth("999", 1, 0, 999);
        worth("007", 1, 0, 7);
        worth("2+3*4", 1, 0, 14);
        worth("20-3-4", 1, 0, 13);
        worth("20/3/2", 1, 0, 3);
        worth("7/2*2", 1, 0, 6);
        worth("20/0", 1, 0, 0);
        worth("0-(0-7)/2", 1, 0, 3);
        worth("-7/2+9", 1, 0, 6);
        worth("--5", 1, 0, 5);
        worth("3---2", 1, 0, 1);
        worth("3*-2+9", 1, 0, 3);
        worth("-2*-3", 1, 0, 6);
        worth("1+1<3", 1, 0, 1);
        worth("3>1+2", 1, 0, 0);
        worth("s=3*3", 1, 0, 1);
        worth("3=4", 1, 0, 0);
        worth("3<3", 1, 0, 0);
        worth("3<4", 1, 0, 1);
        worth("3>3", 1, 0, 0);
        worth("3>2", 1, 0, 1);
        worth("2-1>1-2", 1, 0, 1);
        worth("-(3-5)*-(0-2)", 1, 0, 4);
        worth("(7-(2-(1-(5))))", 1, 0, 1);
        worth("8-6/4*3+2", 1, 0, 7);
        worth("6/4/-1+9", 1, 0, 8);
        worth("(1<2)<2", 1, 0, 1);
        worth("(1<2)+(3=3)*5", 1, 0, 6);
        worth("((((8))))", 1, 0, 8);
        worth("(((1+1)*(2+1)))", 1, 0, 6);
        worth("999*999*999*9-1-1", 1, 0, 383092397);
        worth("0-1", -2, 0, 0);
        worth("-i", -2, 0, 0);
        worth("", 1, 0, 0);
        c.fresh("5,0;9,0;0,0;d0>1*3@0;d1>2*4@0");
        c.rule("g*7+c");
        c.due("0 is WILLING", c.x.willing(1), 0);
        c.row("it owes 1", 12);
    }

    private void badRule(String text, int p) {
        c.due("rule " + text, c.rule(text), -1 - p);
        c.due("emptied behind " + text, c.x.count(7), 0);
        c.due("who is WILLING behind " + text, c.x.willing(0), 2);
        c.row("the rule as it was behind " + text, 2);
    }

    private void wrongRules() {
        c.fresh("9,0;5,0;5,0;0,0;d0>3*5@0");
        c.rule("i");
        badRule("x", 0);
        badRule(" ", 0);
        badRule("+1", 0);
        badRule(")", 0);
        badRule("-", 1);
        badRule("i+", 2);
        badRule("i*/2", 2);
        badRule("ii", 1);
        badRule("i1", 1);
        badRule("1i", 1);
        badRule("1(", 1);
        badRule("(i)1", 3);
        badRule("(i)(", 3);
        badRule("1000", 3);
        badRule("1<2<3", 3);
        badRule("1<2=3", 3);
        badRule("(1<2>3)", 4);
        badRule("1<(2<3)<4", 7);
        badRule("(i", 2);
        badRule("(i))", 3);
        badRule("((i)", 4);
        badRule("()", 1);
        badRule("(-)", 2);
        badRule("(((((i)))))", 4);
        badRule("i+((((-(", 7);
        badRule("I", 0);
    }

    private void longRule() {
        String nineteen = "1+1+1+1+1+1+1+1+1+1+1+1+1+1+1+1+1+1+1+";
        c.fresh("9,0;5,0;5,0;0,0;d0>3*5@0");
        c.due("39", c.rule(nineteen + "1"), 0);
        c.due("40", c.rule(nineteen + "10"), 0);
        c.x.willing(0);
        c.row("40", 29);
        c.due("41 that could go on", c.rule(nineteen + "100"), -41);
        c.due("41 that could end", c.rule(nineteen + "10x"), -41);
        c.due("44", c.rule(nineteen + "(((((("), -41);
        c.due("42, wrong among the first 40", c.rule(nineteen + "x123"), -39);
        c.due("42, wrong at the 40th", c.rule(nineteen + "1xxx"), -40);
        c.due("40 that can't end", c.rule("-" + nineteen + "+"), -40);
        c.due("38 that go on", c.rule("-" + nineteen), -40);
        c.due("40 open ones", c.rule(nineteen + "(1"), -41);
        c.x.willing(0);
        c.row("as it was", 29);
    }

    private void of() {
        c.fresh(FOUR);
        c.x.hide(2, 30);
        c.x.pay(1, 0);
        int[][] want = {
            {10, 0, 0, 0, 10, 0, 8, 0, 0},
            {30, 20, 0, 0, 30, 8, 60, 0, 24},
            {100, 10, 1, 30, 70, 60, 0, 24, 0},
            {25, 5, 0, 0, 25, 0, 0, 0, 0}};
        for (int i = 0; i < 4; i++) {
            for (int what = 0; what < 9; what++) {
                c.due("of(" + i + ", " + what + ")", c.x.of(i, what), want[i][what]);
            }
        }
        c.x.law(2, 1);
        c.due("THE LIST as COIN came", c.x.of(2, 4), 100);
        c.fresh("9,10;5,0;0,0;d1>0*3@0;d1>0*4@0;d2>1*1@0");
        c.due("it is owed both", c.x.of(0, 6), 7);
        c.due("it owes both", c.x.of(1, 5), 7);
        c.x.law(0, 2);
        c.due("0 pays for 2", c.x.pay(0, 2), 1);
        c.due("FAVOURS 0 is owed", c.x.of(0, 8), 1);
        c.due("FAVOURS 2 owes", c.x.of(2, 7), 1);
        c.none("nobody", () -> c.x.of(-1, 0));
        c.none("nobody", () -> c.x.of(4, 0));
        c.none("another what", () -> c.x.of(0, -1));
        c.none("another what", () -> c.x.of(0, 9));
    }

    private void debt() {
        c.fresh(FOUR);
        c.x.pay(1, 0);
        c.x.days(1);
        int[][] want = {{2, 3, 20, 0, 1, 1}, {1, 0, 8, 1, 0, -1}, {2, 1, 60, 0, 2, -1}};
        for (int i = 0; i < 3; i++) {
            for (int what = 0; what < 6; what++) {
                c.due("debt(" + i + ", " + what + ")", c.x.debt(i, what), want[i][what]);
            }
        }
        c.none("none such", () -> c.x.debt(-1, 0));
        c.none("none such", () -> c.x.debt(3, 0));
        c.none("another what", () -> c.x.debt(0, -1));
        c.none("another what", () -> c.x.debt(0, 6));
    }

    private void law() {
        c.fresh();
        int[] greatest = {3, 99, 1, 99};
        int[] first = {0, 1, 0, 0};
        for (int what = 0; what < 4; what++) {
            c.due("at first", c.x.law(what, greatest[what]), first[what]);
            c.due("too much", c.x.law(what, greatest[what] + 1), -1);
            c.due("below 0", c.x.law(what, -1), -1);
            c.due("the greatest stays", c.x.law(what, 0), greatest[what]);
            c.due("0", c.x.law(what, first[what]), 0);
        }
        c.due("what -1", c.x.law(-1, 0), -1);
        c.due("what 4", c.x.law(4, 0), -1);
    }

    private void sheet() {
        c.fresh("10,0;20,0;30,0;d1>0*3@0");
        c.x.hide(2, 7);
        c.due("ints", c.x.sheet(2, 3, 100, 7), 321);
        c.due("nothing HIDDEN", c.x.of(2, 3), 0);
        c.due("COIN of the third", c.x.of(2, 0), 114);
        c.due("those behind it have 0", c.x.sheet(2, 2, 100, 7), 207);
        c.due("COIN of the third", c.x.of(2, 0), 0);
        c.due("more entries than PEOPLE", c.x.sheet(2, 8, 1, 1), 6);
        c.due("no entries", c.x.sheet(2, 0, 9, 9), 0);
        c.due("bytes", c.x.sheet(0, 3, 127, 1), 127);
        c.due("bytes: 300 is 44", c.x.sheet(0, 1, 300, 0), 44);
        c.due("bytes: 256 + 100 is 100", c.x.sheet(0, 2, 356, -256), 200);
        c.due("shorts: 999 at most", c.x.sheet(1, 2, 32767, 1), 999);
        c.due("shorts: 65536 + 5 is 5", c.x.sheet(1, 2, 65541, 2), 12);
        c.due("ints: 999 at most", c.x.sheet(2, 2, 65541, 2), 1998);
        c.due("ints below 0 are 0", c.x.sheet(2, 3, -5, 10), 0 + 5 + 15);
        c.due("ints go round", c.x.sheet(2, 3, Integer.MAX_VALUE, 1), 999);
        c.due("step goes round", c.x.sheet(2, 3, 4, 1 << 31), 4 + 0 + 4);
        c.due("missing", c.x.sheet(3, 3, 100, 7), -3);
        c.due("all 0", c.x.count(5), 0);
        c.x.law(2, 1);
        c.due("THE LIST as COIN came, not as the sheet tells it", c.x.of(1, 4), 20);
    }

    private void refusedSheet() {
        c.fresh("10,0;20,0;3,0;d1>2*3@0");
        c.x.hide(1, 7);
        c.x.pay(0, 0);
        c.due("another kind", c.x.sheet(4, 3, 100, 7), -1);
        c.due("another kind", c.x.sheet(-1, 3, 100, 7), -1);
        c.due("n 9", c.x.sheet(0, 9, 100, 7), -1);
        c.due("n 9 of a missing one", c.x.sheet(3, 9, 100, 7), -1);
        c.due("another kind and n below 0", c.x.sheet(4, -1, 100, 7), -1);
        for (int kind = 0; kind < 3; kind++) {
            c.due("n below 0", c.x.sheet(kind, -1, 100, 7), -2);
        }
        c.due("nothing changes", c.x.of(1, 3), 7);
        c.due("can be undone", c.x.undo(), 0);
        c.x.pay(0, 0);
        c.due("missing, n below 0", c.x.sheet(3, -5, 100, 7), -3);
        c.due("nothing HIDDEN", c.x.of(1, 3), 0);
        c.due("forgotten", c.x.undo(), -1);
    }

    private void noon() {
        c.fresh("10,0;20,0;30,0");
        c.x.law(2, 1);
        c.x.hide(2, 5);
        c.x.give(2, 0, 3);
        c.due("as it came", c.x.of(0, 4) * 100 + c.x.of(2, 4), 1030);
        c.due("sum of COUNTED", c.x.noon(), 55);
        c.due("as COUNTED", c.x.of(0, 4) * 100 + c.x.of(2, 4), 1322);
        c.x.give(2, 0, 3);
        c.x.sheet(2, 3, 1, 0);
        c.due("as it was at noon", c.x.of(0, 4) * 100 + c.x.of(2, 4), 1322);
        c.town("77,0");
        c.due("who came since", c.x.of(3, 4), 77);
        c.x.hide(3, 7);
        c.due("COIN as it came", c.x.of(3, 4), 77);
        c.x.law(2, 0);
        c.due("always", c.x.of(3, 4), 70);
        c.due("noon by another law", c.x.noon(), 73);
        c.x.give(3, 0, 30);
        c.x.law(2, 1);
        c.due("as it was then", c.x.of(3, 4), 70);
    }

    private void hide() {
        c.fresh("10,0;20,0");
        c.due("all", c.x.hide(1, 20), 0);
        c.due("more", c.x.hide(1, 21), -1);
        c.due("below 0", c.x.hide(1, -1), -1);
        c.due("nobody", c.x.hide(2, 0), -1);
        c.due("nobody", c.x.hide(-1, 0), -1);
        c.due("COUNTED", c.x.of(1, 4), 0);
        c.due("COIN", c.x.of(1, 0), 20);
        c.due("it was 20", c.x.hide(1, 3), 20);
        c.due("it was 3", c.x.hide(1, 0), 3);
    }

    private void search() {
        // R goes 1, 1103527590, 2524885223, ..: DRAWS of 10 are (1103527590 >>> 16) % 10 = 8, then 6
        c.fresh("10,0;20,0");
        c.x.hide(1, 7);
        c.due("8 is not below 8", c.x.search(1, 8), 0);
        c.due("nothing gone", c.x.of(1, 0) * 100 + c.x.of(1, 3), 2007);
        c.x.seed(1);
        c.due("8 is below 9", c.x.search(1, 9), 7);
        c.due("gone", c.x.of(1, 0) * 100 + c.x.of(1, 3), 1300);
        c.x.hide(1, 5);
        c.due("6 is not below 6", c.x.search(1, 6), 0);
        c.due("surely", c.x.search(1, 10), 5);
        c.x.hide(1, 8);
        c.due("never", c.x.search(1, 0), 0);
        int r = c.x.seed(44);
        c.due("c 11", c.x.search(1, 11), -1);
        c.due("c -1", c.x.search(1, -1), -1);
        c.due("nobody", c.x.search(2, 1), -1);
        c.due("nobody", c.x.search(-1, 1), -1);
        c.due("no DRAW", c.x.seed(r), 44);
        c.due("nothing HIDDEN", c.x.search(0, 10), 0);
    }
}
