/** A test of its own for each sentence of the Terms and of promises 1 to 5 that names a boundary case. */
public final class TownBoundsTest {
    /** 64 signs: eight of PEOPLE, the last one behind its ; as all others. */
    private static final String EIGHT = "100,10!;100,10!;100,10!;100,10!;100,10!;100,10!;100,10!;100,10!;";
    /** 1, 2 and 3 may pay DEBT 0, of 5 that 0 owes 4. */
    private static final String THREE = "90,0;30,10;20,20;10,30;0,0;d0>4*5@0";

    private final Check c = new Check("TownBoundsTest");

    public static void main(String[] args) {
        TownBoundsTest test = new TownBoundsTest();
        test.terms();
        test.rules();
        test.newObject();
        test.signs();
        test.towns();
        test.ruleTexts();
        test.c.finish();
    }

    private void terms() {
        eightPeople();
        coinAtFirst();
        asks();
        kind();
        hidden();
        counted();
        tenDebts();
        toAnother();
        sums();
        dues();
        townSigns();
        linesBetween();
        personLine();
        debtLine();
        behindWhatThereIs();
        listAsItCame();
        listAtNoon();
        laws();
    }

    private void eightPeople() {
        c.says("PEOPLE 0 .. (at most 8)");
        c.due("eight", c.town("1,0;2,0;3,0;4,0;5,0;6,0;7,0;8,0"), 8);
        c.due("the eighth", c.x.of(7, 0), 8);
        c.none("a ninth", () -> c.x.of(8, 0));
        c.due("a ninth", c.town("9,0"), -1);
        c.due("PEOPLE", c.x.count(0), 8);
    }

    private void coinAtFirst() {
        c.says("COIN (0 .. 999 at first)");
        c.fresh("0,0;999,0;999,0");
        c.due("0", c.x.of(0, 0), 0);
        c.due("999", c.x.of(1, 0), 999);
        c.due("1000", c.town("1000,0"), -4);
        c.due("more later", c.x.give(1, 2, 999), true);
        c.due("1998", c.x.of(2, 0), 1998);
    }

    private void asks() {
        c.says("ASKS 0 .. 99");
        c.fresh("5,0;5,99");
        c.due("0", c.x.of(0, 1), 0);
        c.due("99", c.x.of(1, 1), 99);
        c.due("100", c.town("5,100"), -5);
    }

    private void kind() {
        c.says("KIND or not (asks nothing)");
        c.fresh("90,0;50,99!;50,99;0,0;d0>3*10@0;d0>3*10@0");
        c.due("KIND", c.x.of(1, 2), 1);
        c.due("not", c.x.of(2, 2), 0);
        c.due("asks nothing", c.x.pay(1, 0), 0);
        c.due("asks", c.x.pay(2, 1), 19);
    }

    private void hidden() {
        c.says("HIDDEN (at most COIN, at first 0)");
        c.fresh("10,0;0,0");
        c.due("at first", c.x.of(0, 3), 0);
        c.due("all", c.x.hide(0, 10), 0);
        c.due("more", c.x.hide(0, 11), -1);
        c.due("COUNTED", c.x.of(0, 4), 0);
        c.due("COIN", c.x.of(0, 0), 10);
        c.due("nothing of nothing", c.x.hide(1, 0), 0);
        c.due("something of nothing", c.x.hide(1, 1), -1);
    }

    private void counted() {
        c.says("COUNTED is COIN less HIDDEN");
        c.fresh("10,0;0,0");
        c.due("nothing HIDDEN", c.x.of(0, 4), 10);
        c.x.hide(0, 1);
        c.due("1", c.x.of(0, 4), 9);
        c.x.hide(0, 10);
        c.due("all", c.x.of(0, 4), 0);
        c.due("of nothing", c.x.of(1, 4), 0);
        c.due("COIN stays", c.x.of(0, 0), 10);
    }

    private void tenDebts() {
        c.says("DEBTS 0 .. (at most 10)");
        c.fresh("1,0;2,0");
        for (int i = 0; i < 10; i++) {
            c.due("one more", c.town("d0>1*" + (i + 1) + "@0"), 1);
        }
        c.due("the tenth", c.x.debt(9, 2), 10);
        c.none("an eleventh", () -> c.x.debt(10, 2));
        c.due("an eleventh", c.town("d0>1*1@0"), -1);
        c.due("DEBTS", c.x.count(1), 10);
    }

    private void toAnother() {
        c.says("who owes it, to whom (another one)");
        c.fresh("1,0;2,0");
        c.due("to another one", c.town("d1>0*1@0"), 1);
        c.due("to itself", c.town("d1>1*1@0"), -4);
        c.due("0 to itself", c.town("d0>0*1@0"), -4);
        c.due("DEBTS", c.x.count(1), 1);
    }

    private void sums() {
        c.says("a SUM 1 .. 99");
        c.fresh("1,0;2,0;d0>1*1@0;d0>1*99@0");
        c.due("1", c.x.debt(0, 2), 1);
        c.due("99", c.x.debt(1, 2), 99);
        c.due("0", c.town("d0>1*0@0"), -6);
        c.due("100", c.town("d0>1*100@0"), -8);
    }

    private void dues() {
        c.says("DUE 0 .. 99");
        c.fresh("1,0;2,0;d0>1*1@0;d0>1*1@99");
        c.due("0", c.x.debt(0, 3), 0);
        c.due("99", c.x.debt(1, 3), 99);
        c.due("100", c.town("d0>1*1@100"), -10);
    }

    private void townSigns() {
        c.says("THE TOWN is a text of at most 76 signs");
        c.fresh(EIGHT + "d0>1*10@90");
        c.due("74 signs", c.x.count(1), 1);
        c.fresh(EIGHT.replace("0!;1", "0;1") + "d0>1*10@9;d0>1*1@9");
        c.due("75 signs", c.x.count(1), 2);
        c.fresh(EIGHT.replace("0!;1", "0;1") + "d0>1*10@90;d0>1*1@9");
        c.due("76 signs", c.x.count(1), 2);
        c.fresh();
        c.due("77 signs", c.town(EIGHT.replace("0!;1", "0;1") + "d0>1*10@90;d0>1*10@9"), -77);
        c.due("nobody", c.x.count(0), 0);
    }

    private void linesBetween() {
        c.says("LINES with ; between");
        c.due("one", c.town("1,0"), 1);
        c.due("two", c.town("1,0;2,0"), 2);
        c.due("; alone", c.town(";"), -1);
        c.due("; ahead", c.town(";1,0"), -1);
        c.due("; behind", c.town("1,0;"), -5);
        c.due("two ;", c.town("1,0;;2,0"), -5);
        c.due("no ;", c.town("1,0!2,0"), -5);
        c.due("PEOPLE", c.x.count(0), 3);
    }

    private void personLine() {
        c.says("COIN (1 to 3 digits), a comma, ASKS (1 or 2 digits), and perhaps ! (KIND)");
        c.fresh("1,2;12,34;123,45!");
        c.due("1, 2", c.x.of(0, 0) * 100 + c.x.of(0, 1), 102);
        c.due("12, 34", c.x.of(1, 0) * 100 + c.x.of(1, 1), 1234);
        c.due("123, 45", c.x.of(2, 0) * 100 + c.x.of(2, 1), 12345);
        c.due("KIND", c.x.of(0, 2) * 100 + c.x.of(1, 2) * 10 + c.x.of(2, 2), 1);
        c.due("no COIN", c.town(",1"), -1);
        c.due("4 digits", c.town("1234,5"), -4);
        c.due("no ASKS", c.town("1,!"), -3);
        c.due("3 digits", c.town("1,234"), -5);
        c.due("two !", c.town("1,2!!"), -5);
        c.due("! ahead of ASKS", c.town("1!,2"), -2);
    }

    private void debtLine() {
        c.says("(PEOPLE are digits; SUM and DUE 1 or 2)");
        c.fresh("1,0;2,0;d0>1*2@3;d1>0*12@34;d1>0*02@04");
        c.due("2, 3", c.x.debt(0, 2) * 100 + c.x.debt(0, 3), 203);
        c.due("12, 34", c.x.debt(1, 2) * 100 + c.x.debt(1, 3), 1234);
        c.due("02, 04", c.x.debt(2, 2) * 100 + c.x.debt(2, 3), 204);
        c.due("two digits of one", c.town("d01>1*2@3"), -3);
        c.due("two digits of the other one", c.town("d0>01*2@3"), -4);
        c.due("two digits of the other one", c.town("d1>00*2@3"), -5);
        c.due("none", c.town("d>1*2@3"), -2);
        c.due("none for the other one", c.town("d0>*2@3"), -4);
        c.due("no SUM", c.town("d0>1*@3"), -6);
        c.due("SUM of 3", c.town("d0>1*123@3"), -8);
        c.due("no DUE", c.town("d0>1*2@"), -8);
        c.due("DUE of 3", c.town("d0>1*2@123"), -10);
    }

    private void behindWhatThereIs() {
        c.says("what they tell comes behind what there is");
        c.fresh("1,0;2,0;d0>1*3@0");
        c.due("two more", c.town("4,0;d1>2*5@0"), 2);
        c.due("the third", c.x.of(2, 0), 4);
        c.due("the second DEBT", c.x.debt(1, 2), 5);
        c.due("the first ones as they were", c.x.of(0, 0) * 100 + c.x.of(1, 0) * 10 + c.x.debt(0, 2), 123);
    }

    private void listAsItCame() {
        c.says("(of who came since, and ahead of any noon(), COIN as it came)");
        c.fresh("10,0;20,0");
        c.x.law(2, 1);
        c.x.hide(0, 3);
        c.x.sheet(2, 2, 50, 10);
        c.due("ahead of any noon()", c.x.of(0, 4) * 100 + c.x.of(1, 4), 1020);
        c.due("below by it", c.x.below(1), 1);
        c.x.noon();
        c.town("30,0");
        c.x.sheet(2, 3, 70, 10);
        c.due("who came since", c.x.of(2, 4), 30);
        c.due("who was there", c.x.of(0, 4) * 100 + c.x.of(1, 4), 5060);
        c.due("both by it", c.x.below(0), 4);
    }

    private void listAtNoon() {
        c.says("by THE LAW always as it is now, or as it was at noon() last");
        c.fresh("10,0;20,0");
        c.x.noon();
        c.x.give(1, 0, 15);
        c.due("always", c.x.below(0), 2);
        c.x.law(2, 1);
        c.due("as it was", c.x.below(0), 0);
        c.x.noon();
        c.due("noon() last", c.x.below(0), 2);
        c.x.give(0, 1, 15);
        c.x.law(2, 0);
        c.due("always", c.x.below(0), 0);
    }

    private void laws() {
        law("sort 0 .. 3 (at first 0)", 0, 3, 0);
        law("BY 0 .. 99 (at first 1)", 1, 99, 1);
        law("1 if it is counted at noon (at first 0)", 2, 1, 0);
        law("LATE 0 .. 99 (at first 0)", 3, 99, 0);
    }

    private void law(String words, int what, int greatest, int first) {
        c.says(words);
        c.due("the greatest, at first", c.x.law(what, greatest), first);
        c.due("more", c.x.law(what, greatest + 1), -1);
        c.due("below 0", c.x.law(what, -1), -1);
        c.due("0", c.x.law(what, 0), greatest);
        c.due("it was 0", c.x.law(what, 0), 0);
    }

    private void rules() {
        ruleAtFirst();
        ruleSigns();
        compared();
        notBehindOneAnother();
        sumsFromTheLeft();
        productsFromTheLeft();
        minuses();
        numbers();
        brackets();
        letters();
        owedByIt();
        asInts();
        atLeastNought();
        firstOfEqual();
        draws();
    }

    /** By a rule, one is WILLING to pay DEBT 0, and it is so much. */
    private void willing(String rule, int person, int worth) {
        c.due("rule " + rule, c.rule(rule), 0);
        c.due("willing by " + rule, c.x.willing(0), person);
        c.row("willing by " + rule, worth);
    }

    /** The same for all, so that the first is WILLING. */
    private void worth(String rule, int worth) {
        willing(rule, 1, worth);
    }

    private void unwilling(String rule) {
        c.due("rule " + rule, c.rule(rule), 0);
        c.due("willing by " + rule, c.x.willing(0), -2);
    }

    private void ruleAtFirst() {
        c.says("THE RULE is a text of at most 40 signs (at first none: 0)");
        c.fresh(THREE);
        c.due("the first of all", c.x.willing(0), 1);
        c.row("0", 0);
    }

    private void ruleSigns() {
        c.says("THE RULE is a text of at most 40 signs");
        c.fresh(THREE);
        String thirty = "1+1+1+1+1+1+1+1+1+1+1+1+1+1+1+";
        worth(thirty + "11+11+111", 148);
        worth(thirty + "11+11+11*2", 59);
        c.due("41", c.rule(thirty + "11+11+111*2"), -41);
        c.due("the rule of 40", c.x.willing(0), 1);
        c.row("as it was", 59);
    }

    private void compared() {
        c.says("< > = bind least (two; 1 or 0; not one behind the other)");
        c.fresh(THREE);
        worth("1<2", 1);
        worth("2<2", 0);
        worth("3<2", 0);
        worth("2>1", 1);
        worth("2>2", 0);
        worth("1>2", 0);
        worth("2=2", 1);
        worth("1=2", 0);
        worth("2=1", 0);
        worth("1+1=2", 1);
        worth("2=1+1", 1);
        worth("3=1+1", 0);
        worth("3>1+2", 0);
        worth("2<1+2", 1);
        worth("3-1>1-1", 1);
        worth("2=4-1", 0);
        worth("2*2=2*2", 1);
        worth("2*2>3", 1);
        worth("3<2*2", 1);
        worth("0-1<0", 1);
    }

    private void notBehindOneAnother() {
        c.says("not one behind the other");
        c.due("two", c.rule("1<2<3"), -4);
        c.due("two, a sum between", c.rule("1=2+3=4"), -6);
        c.due("three kinds", c.rule("1>2=3"), -4);
        c.due("in ( )", c.rule("(1<2>3)"), -5);
        c.due("behind ( )", c.rule("1<(2<3)<4"), -8);
        c.due("one in ( )", c.rule("(1<2)<3"), 0);
        c.due("both in ( )", c.rule("(1<2)=(3<4)"), 0);
        c.due("two pairs", c.rule("(1<2)+(3<4)"), 0);
        c.due("one alone", c.rule("<2"), -1);
        c.due("one alone", c.rule("2<"), -3);
    }

    private void sumsFromTheLeft() {
        c.says("then + - (from the left)");
        c.fresh(THREE);
        worth("20-3-4", 13);
        worth("20-3+4", 21);
        worth("1+2*3", 7);
        worth("9-4/2", 7);
        worth("2*3+1", 7);
        worth("2+3*4-1", 13);
    }

    private void productsFromTheLeft() {
        c.says("then * / (from the left; by 0: 0; cut to 0)");
        c.fresh(THREE);
        worth("20/3/2", 3);
        worth("20/3*3", 18);
        worth("7*3/2", 10);
        worth("20/0", 0);
        worth("0/0", 0);
        worth("5+20/0*9", 5);
        worth("20/(2-2)", 0);
        worth("7/2", 3);
        worth("0-(0-7)/2", 3);
        worth("-7/2+3", 0);
        worth("7/-2+3", 0);
        worth("-7/-2", 3);
        unwilling("-1/0-1");
    }

    private void minuses() {
        c.says("then - ahead of a thing (any many)");
        c.fresh(THREE);
        unwilling("-1");
        worth("--1", 1);
        unwilling("---1");
        worth("5-----2", 3);
        worth("5----2", 7);
        worth("-(0-2)", 2);
        worth("-2*-3", 6);
        worth("-".repeat(38) + "1", 1);
        unwilling("-".repeat(39) + "1");
    }

    private void numbers() {
        c.says("a NUMBER of 1 to 3 digits");
        c.fresh(THREE);
        worth("0", 0);
        worth("7", 7);
        worth("77", 77);
        worth("777", 777);
        worth("999", 999);
        worth("007", 7);
        worth("000", 0);
        c.due("4 digits", c.rule("7777"), -4);
        c.due("4 digits of 0", c.rule("0000"), -4);
        c.due("4 digits behind +", c.rule("1+7777"), -6);
        c.due("digits behind ( )", c.rule("(1)2"), -4);
        c.due("digits behind a NUMBER and a sign", c.rule("1+i2"), -4);
        worth("(12)+34", 46);
    }

    private void brackets() {
        c.says("an EXPRESSION in ( ) (at most 4 in one another)");
        c.fresh(THREE);
        worth("((((7))))", 7);
        worth("(((7)))+((((1))))", 8);
        worth("((((1)+(2))+(3))+(4))", 10);
        c.due("5", c.rule("(((((7)))))"), -5);
        c.due("5 behind others", c.rule("((1))+((((("), -11);
        c.due("nothing in them", c.rule("()"), -2);
        c.due("not closed", c.rule("(1"), -3);
        c.due("closed twice", c.rule("(1))"), -4);
        c.due("not opened", c.rule("1)"), -2);
    }

    private void letters() {
        c.says("i its number, c COUNTED now, a ASKS, s SUM, p PRICE, f FAVOURS it is owed in all, o the SUMS of OPEN DEBTS it owes");
        c.fresh("90,0;30,50;20,90;0,0;d0>3*7@0;d0>3*1@0;d2>3*4@0;d2>3*3@99;d1>3*9@1");
        c.x.pay(2, 1);
        c.x.hide(2, 5);
        willing("i", 2, 2);
        willing("c", 1, 30);
        willing("99-c", 2, 85);
        willing("a", 2, 90);
        willing("s", 1, 7);
        willing("p", 2, 13);
        willing("f", 2, 1);
        willing("o", 1, 9);
        willing("9-o", 2, 2);
        c.x.hide(2, 0);
        c.x.give(1, 3, 12);
        c.due("1 pays for 2", c.x.pay(1, 2), 6);
        willing("f", 1, 6);
        willing("9-o", 2, 6);
    }

    private void owedByIt() {
        c.says("g 1 if who owes the DEBT is owed an OPEN DEBT by it");
        c.fresh("90,0;30,0;20,0;0,0;d0>3*7@0;d2>0*3@9;d1>3*5@9;d0>1*5@9;d2>0*1@0");
        willing("g", 2, 1);
        c.due("DEBTS of it PAID", c.x.pay(3, 4), -2);
        c.x.law(0, 2);
        c.due("one of two PAID", c.x.pay(1, 4), 1);
        c.x.law(0, 0);
        willing("g", 2, 1);
        c.x.law(0, 2);
        c.due("both PAID", c.x.pay(1, 1), 3);
        c.x.law(0, 0);
        willing("g", 1, 0);
        c.fresh("20,0;90,0;20,0;0,0;d2>1*3@9;d1>3*7@0");
        c.rule("g");
        c.due("the first DEBT is one that 2 owes to 1", c.x.willing(1), 2);
        c.row("1", 1);
        c.rule("2-g");
        c.due("0 owes none", c.x.willing(1), 0);
        c.row("2", 2);
        c.due("a town that can't be", c.town("d0>1*3@9;d"), -11);
        c.due("0 owes none", c.x.willing(1), 0);
        c.row("2", 2);
    }

    private void asInts() {
        c.says("As ints.");
        c.fresh(THREE);
        worth("999*999*999*9-1-1", 383092397);
        worth("512*512*512*16<0", 1);
        worth("512*512*512*16-1>0", 1);
        worth("512*512*512*16/-1<0", 1);
        worth("-(512*512*512*16)<0", 1);
        worth("512*512*512*16*2", 0);
    }

    private void atLeastNought() {
        c.says("and for whom THE RULE is 0 at least");
        c.fresh(THREE);
        willing("i-3", 3, 0);
        unwilling("i-4");
        willing("2-i", 1, 1);
        willing("0-(i<3)", 3, 0);
    }

    private void firstOfEqual() {
        c.says("the one with the greatest (of equal ones the first)");
        c.fresh(THREE);
        willing("i>1", 2, 1);
        willing("i", 3, 3);
        willing("c", 1, 30);
        willing("i*0", 1, 0);
        c.fresh("5,0;90,0;5,0;0,0;d1>3*5@0");
        c.due("0 is the first", c.x.willing(0), 0);
        willing("7", 0, 7);
        willing("i", 2, 2);
        willing("0-i", 0, 0);
    }

    private void draws() {
        c.says("R = R times 1103515245 + 12345 (as ints; R at first 1), (R without sign, by 65536) % n");
        c.fresh("90,0");
        c.x.hide(0, 5);
        c.due("R behind 1 is 1103527590: 16838 % 10 is 8", c.x.search(0, 8), 0);
        c.due("R", c.x.seed(1), 1103527590);
        c.due("8 again", c.x.search(0, 9), 5);
        c.x.hide(0, 5);
        c.due("R behind it is 2524885223 without sign: 38526 % 10 is 6", c.x.search(0, 6), 0);
        c.due("R", c.x.seed(1103527590), (int) 2524885223L);
        c.due("6 again", c.x.search(0, 7), 5);
        c.x.seed(0);
        c.x.hide(0, 5);
        c.due("R behind 0 is 12345: 0 % 10 is 0", c.x.search(0, 0), 0);
        c.x.seed(0);
        c.due("0 again", c.x.search(0, 1), 5);
        c.x.seed(2);
        c.x.hide(0, 5);
        c.due("R behind 2 is 2207042835: 33676 % 10 is 6", c.x.search(0, 6), 0);
        c.x.seed(2);
        c.due("6 again", c.x.search(0, 7), 5);
    }

    private void newObject() {
        c.says("`PaidByPoorer()`: Nobody.");
        for (int what = 0; what < 8; what++) {
            c.due("count " + what, c.x.count(what), 0);
        }
        c.none("one of PEOPLE", () -> c.x.of(0, 0));
        c.none("a DEBT", () -> c.x.debt(0, 0));
        c.none("a number of the ROW", () -> c.x.row(0));
        c.due("nothing kept", c.x.again(0) || c.x.again(1), false);
        c.due("R", c.x.seed(1), 1);
        c.due("TODAY", c.x.today(), 0);
        c.due("below", c.x.below(0), -1);
        c.due("lowest", c.x.lowest(), -2);
    }

    private void signs() {
        highestByteFirst();
        moreThanEighty();
        firstAlone();
    }

    private void highestByteFirst() {
        c.says("Four signs come behind THE TEXT, of v the highest byte first: how many it has.");
        c.due("four", c.x.sign('1' << 24 | ',' << 16 | '2' << 8 | ';'), 4);
        c.due("eight", c.x.sign('3' << 24 | ',' << 16 | '4' << 8 | '5'), 8);
        c.due("town", c.x.town(), 2);
        c.due("1, 2, 3, 45", c.x.of(0, 0) * 1000 + c.x.of(0, 1) * 100 + c.x.of(1, 0) * 10 + c.x.of(1, 1), 1275);
        c.due("of -1", c.x.sign(-1), 4);
        c.due("255 can't stand there", c.x.town(), -1);
        c.due("of the least", c.x.sign(Integer.MIN_VALUE), 4);
        c.due("128 can't stand there", c.x.rule(), -1);
    }

    private void moreThanEighty() {
        c.says("Refused: there would be more than 80.");
        for (int i = 1; i <= 20; i++) {
            c.due("signs", c.x.sign(i), 4 * i);
        }
        c.due("84", c.x.sign(1), -1);
        c.due("80 stay", c.x.count(7), 80);
        c.x.end(77);
        c.due("81", c.x.sign(1), -1);
        c.due("77 stay", c.x.count(7), 77);
        c.x.end(76);
        c.due("80", c.x.sign(1), 80);
    }

    private void firstAlone() {
        c.says("THE TEXT has its first n signs alone: true; false if it has not so many, or n is below 0.");
        c.due("0 of nothing", c.x.end(0), true);
        c.due("1 of nothing", c.x.end(1), false);
        c.due("-1 of nothing", c.x.end(-1), false);
        c.x.sign('1' << 24 | ',' << 16 | '2' << 8 | '3');
        c.due("more", c.x.end(5), false);
        c.due("the most", c.x.end(Integer.MAX_VALUE), false);
        c.due("below 0", c.x.end(-1), false);
        c.due("the least", c.x.end(Integer.MIN_VALUE), false);
        c.due("four stay", c.x.count(7), 4);
        c.due("all", c.x.end(4), true);
        c.due("the first 3", c.x.end(3), true);
        c.due("what is gone is gone", c.x.end(4), false);
        c.due("town", c.x.town(), 1);
        c.due("ASKS", c.x.of(0, 1), 2);
        c.x.sign(7);
        c.due("none", c.x.end(0), true);
        c.due("an empty town", c.x.town(), 0);
    }

    private void towns() {
        emptyTown();
        tooEarly();
        moreThanSeventySix();
        notThere();
        sumOfNought();
        noRoom();
        nothingOfIt();
        emptied();
    }

    private void emptyTown() {
        c.says("THE TEXT tells of THE TOWN (an empty one: nothing): how many LINES.");
        c.due("nothing, of nobody", c.x.town(), 0);
        c.fresh("1,0;2,0;d0>1*1@0");
        c.changesNothing("an empty one", () -> c.x.town(), 0);
        c.due("one LINE", c.town("3,0"), 1);
        c.due("two LINES", c.town("4,0;d2>0*3@0"), 2);
    }

    /** Each text that stops within a LINE: where it could not stop, its end can't stand there. */
    private void tooEarly() {
        c.says("its end, if it ends too early");
        String lines = "12,34!;56,78;d0>1*23@45";
        boolean[] canEnd = new boolean[lines.length() + 1];
        for (int n : new int[] {0, 4, 5, 6, 11, 12, 22, 23}) {
            canEnd[n] = true;
        }
        for (int n = 0; n <= lines.length(); n++) {
            c.fresh();
            c.due("town " + lines.substring(0, n), c.town(lines.substring(0, n)) < 0, !canEnd[n]);
            c.fresh();
            if (!canEnd[n]) {
                c.due("town " + lines.substring(0, n), c.town(lines.substring(0, n)), -1 - n);
            }
        }
    }

    private void moreThanSeventySix() {
        c.says("76, if it has more and the first 76 could go on or end");
        String most = EIGHT.replace("0!;1", "0;1");
        c.due("end, and go on", c.town(most + "d0>1*10@90;d0>1*1@12"), -77);
        c.due("end, and go on with a LINE", c.town(most + "d0>1*10@90;d0>1*1@1;d0"), -77);
        c.due("end, and go on with what can't", c.town(most + "d0>1*10@90;d0>1*1@1x"), -77);
        c.due("go on alone", c.town(most + "d0>1*10@90;d0>1*12@3"), -77);
        c.due("go on alone with what can't", c.town(most + "d0>1*10@90;d0>1*12@x"), -77);
        c.due("go on behind ;", c.town(most + "d0>1*10@9;d0>1*1@1;d0>1"), -80 + 3);
        c.due("76 that can't end", c.town(most + "d0>1*10@90;d0>1*12@"), -77);
        c.due("what is wrong comes first", c.town(most + "d0>1*10@90;d0>1*1@xxxxx"), -76);
        c.due("what is wrong comes first", c.town("x" + most + "d0>1*10@90;d0>1*1@1"), -1);
        c.due("80 signs of one digit", c.town("1".repeat(80)), -4);
        c.due("nobody", c.x.count(0), 0);
    }

    private void notThere() {
        c.says("one that is not there, or the same as the first one: at its digit");
        c.due("nobody is there", c.town("d0>1*1@1"), -2);
        c.fresh("1,0;2,0");
        c.due("2 owes", c.town("d2>1*1@1"), -2);
        c.due("9 owes", c.town("d9>1*1@1"), -2);
        c.due("2 gets", c.town("d0>2*1@1"), -4);
        c.due("9 gets", c.town("d0>9*1@1"), -4);
        c.due("the same", c.town("d0>0*1@1"), -4);
        c.due("the same", c.town("d1>1*1@1"), -4);
        c.due("the first comes first", c.town("d2>2*1@1"), -2);
        c.due("one who comes in a LINE behind it", c.town("d2>1*1@1;3,0"), -2);
        c.due("one who comes in a LINE ahead of it", c.town("3,0;d2>1*1@1"), 2);
        c.due("one who comes yet", c.town("d3>1*1@1;3,0"), -2);
        c.fresh("1,0;1,0;1,0;1,0;1,0;1,0;1,0;1,0");
        c.due("7 is there", c.town("d7>6*1@1"), 1);
        c.due("8 is not", c.town("d8>6*1@1"), -2);
        c.due("8 is not", c.town("d7>8*1@1"), -4);
    }

    private void sumOfNought() {
        c.says("a SUM of 0, as far as it stands in the first 76: at its last digit");
        c.fresh("1,0;2,0");
        c.due("0", c.town("d0>1*0@1"), -6);
        c.due("00", c.town("d0>1*00@1"), -7);
        c.due("000", c.town("d0>1*000@1"), -7);
        c.due("01", c.town("d0>1*01@1"), 1);
        c.due("0 at the end", c.town("d0>1*0"), -6);
        c.due("00 at the end", c.town("d0>1*00"), -7);
        c.due("0 ahead of what can't stand there", c.town("d0>1*0x"), -6);
        c.fresh();
        String most = EIGHT.replace("0!;1", "0;1");
        c.due("05, 0 of it in the first 76", c.town(most.substring(8) + "d0>1*12@34;d0>1*12@3;d0>1*05@1"), -76);
        c.due("15, 1 of it in the first 76", c.town(most.substring(8) + "d0>1*12@34;d0>1*12@3;d0>1*15@1"), -77);
        c.due("00, all of it there", c.town(most.substring(8) + "d0>1*12@3;d0>1*12@3;d0>1*00@1"), -76);
        c.due("05, all of it there", c.town(most.substring(8) + "d0>1*12@3;d0>1*12@3;d0>1*05@1"), -77);
        c.due("nobody", c.x.count(0), 0);
    }

    private void noRoom() {
        c.says("the first sign of a LINE for which there is no room");
        c.due("a ninth", c.town("1,1;2,2;3,3;4,4;5,5;6,6;7,7;8,8;9,9"), -33);
        c.fresh("1,1;2,2;3,3;4,4;5,5;6,6;7,7;8,8");
        c.due("a ninth", c.town("9,9"), -1);
        c.due("a ninth, told wrongly", c.town("9x"), -1);
        c.due("a ninth behind a DEBT", c.town("d0>1*1@1;9,9"), -10);
        for (int i = 0; i < 9; i++) {
            c.due("DEBTS", c.town("d0>1*1@1"), 1);
        }
        c.due("an eleventh", c.town("d0>1*1@1;d0>1*1@1"), -10);
        c.due("the tenth", c.town("d0>1*1@1"), 1);
        c.due("an eleventh", c.town("d0>1*1@1"), -1);
        c.due("an eleventh, told wrongly", c.town("dx"), -1);
        c.due("nothing at all", c.town("x"), -1);
    }

    private void nothingOfIt() {
        c.says("Nothing of it comes, if a LINE can't.");
        c.fresh("1,0;2,0;d0>1*1@0");
        c.due("kept", c.x.keep(0), true);
        c.changesNothing("the second", () -> c.town("3,0;4"), -6);
        c.changesNothing("the last sign", () -> c.town("3,0;d2>0*5@1;7,7;"), -18);
        c.due("no DEBT of who did not come", c.town("d2>0*5@1"), -2);
        c.due("nobody was told since", c.x.again(0), true);
        c.due("who comes now", c.town("9,1;d2>0*7@2"), 2);
        c.due("is the third", c.x.of(2, 0), 9);
        c.due("not KIND", c.x.of(2, 2), 0);
        c.due("its DEBT", c.x.debt(1, 2), 7);
    }

    private void emptied() {
        c.says("change nothing but THE TEXT, which a call that reads it empties");
        for (String text : new String[] {"x", "1,0", "c"}) {
            c.tell(text);
            c.x.town();
            c.due("behind town() of " + text, c.x.count(7), 0);
            c.tell(text);
            c.x.rule();
            c.due("behind rule() of " + text, c.x.count(7), 0);
        }
        c.tell("2,0");
        c.x.of(0, 0);
        c.x.law(9, 9);
        c.x.days(61);
        c.x.end(9);
        c.due("other calls leave it", c.x.count(7), 3);
        c.due("town", c.x.town(), 1);
    }

    private void ruleTexts() {
        emptyRule();
        ruleTooEarly();
        moreThanForty();
        ruleWrong();
    }

    private void emptyRule() {
        c.says("THE TEXT is THE RULE (an empty one: none): 0.");
        c.fresh(THREE);
        willing("i+4", 3, 7);
        c.due("an empty one", c.rule(""), 0);
        c.due("none", c.x.willing(0), 1);
        c.row("none", 0);
        unwilling("-1");
        c.due("an empty one", c.rule(""), 0);
        c.due("none", c.x.willing(0), 1);
    }

    private void ruleTooEarly() {
        c.says("-1 - p: as town() (40 signs).");
        for (String rule : new String[] {"1+", "c*", "c/", "c-", "-", "(", "(c", "((c)", "c<", "c=", "c>", "(1+", "--", "c+-"}) {
            c.due("rule " + rule, c.rule(rule), -1 - rule.length());
        }
    }

    private void moreThanForty() {
        c.says("`int rule()`: THE TEXT is THE RULE");
        c.fresh(THREE);
        String most = "1+1+1+1+1+1+1+1+1+1+1+1+1+1+1+1+1+1+1+";
        worth(most + "12", 31);
        c.due("could end", c.rule(most + "12+1"), -41);
        c.due("could end, and goes on with what can't", c.rule(most + "12x"), -41);
        c.due("could go on", c.rule(most + "1+1"), -41);
        c.due("could go on in ( )", c.rule(most + "(1)"), -41);
        c.due("could go on, and does with what can't", c.rule(most + "1++"), -41);
        c.due("40 that can't end", c.rule(most + "1+"), -41);
        c.due("40 that can't end", c.rule(most + "(1"), -41);
        c.due("40 that can't end", c.rule(most + "--"), -41);
        c.due("wrong at the 40th", c.rule(most + "1x"), -40);
        c.due("wrong at the 40th, and more", c.rule(most + "1x123"), -40);
        c.due("80 signs of one digit", c.rule("1".repeat(80)), -4);
        c.due("the rule as it was", c.x.willing(0), 1);
        c.row("the rule as it was", 31);
    }

    private void ruleWrong() {
        c.says("-1 - p: the sign at p can't stand there");
        c.fresh(THREE);
        willing("i", 3, 3);
        for (String rule : new String[] {"x", "+", "*", "/", ")", "<", "=", ">", " ", "!", ";", "I", "b", "\u00e9", "\0"}) {
            c.due("first " + rule, c.rule(rule + "1"), -1);
            c.due("behind - " + rule, c.rule("-" + rule + "1"), -2);
            c.due("behind ( " + rule, c.rule("(" + rule + "1)"), -2);
        }
        for (String rule : new String[] {"x", "(", "c", "1", " ", ")", "!", ";", ",", "\u00e9", "\0"}) {
            c.due("behind a thing " + rule, c.rule("i" + rule + "1"), -2);
            c.due("behind another thing " + rule, c.rule("c+i" + rule), -4);
        }
        c.due("the rule as it was", c.x.willing(0), 3);
        c.row("the rule as it was", 3);
        for (String rule : new String[] {"-", "2-", "2*(", "1<(2=", "((((", "0-(", "5<"}) {
            c.due("what can't end", c.rule(rule) < 0, true);
            worth("7", 7);
            worth("1<2", 1);
            worth("((((8))))", 8);
        }
    }
}
