/** What the tests share: one object under test, texts told to it, and answers held against those that are due. */
final class Check {
    private final String name;
    private int checks;
    private int wrong;

    PaidByPoorer x;

    Check(String name) {
        this.name = name;
        fresh();
    }

    void fresh() {
        x = new PaidByPoorer();
    }

    /** A new object with a town. */
    void fresh(String town) {
        fresh();
        due("town " + town, town(town), town.split(";").length);
    }

    /** Tells a text, whatever stands there already, four signs at a time, and cuts what is too much. */
    void tell(String text) {
        int had = x.count(7);
        for (int i = 0; i < text.length(); i += 4) {
            int four = 0;
            for (int k = 0; k < 4; k++) {
                four = four << 8 | (i + k < text.length() ? text.charAt(i + k) & 255 : 0);
            }
            x.sign(four);
        }
        x.end(had + text.length());
    }

    int town(String text) {
        tell(text);
        return x.town();
    }

    int rule(String text) {
        tell(text);
        return x.rule();
    }

    void due(String what, long got, long want) {
        checks++;
        if (got != want) {
            wrong++;
            if (wrong <= 40) {
                System.out.println(name + ": " + what + " answered " + got + ", due is " + want);
            }
        }
    }

    void due(String what, boolean got, boolean want) {
        due(what, got ? 1 : 0, want ? 1 : 0);
    }

    /** The ROW has these numbers, and no more. */
    void row(String what, long... want) {
        due(what + ": numbers of the ROW", x.count(6), want.length);
        for (int i = 0; i < want.length && i < x.count(6); i++) {
            due(what + ": row " + i, x.row(i), want[i]);
        }
    }

    interface Call {
        long made();
    }

    /** The call throws NoSuchElementException itself. */
    void none(String what, Call call) {
        int thrown = 0;
        try {
            call.made();
        } catch (java.util.NoSuchElementException e) {
            thrown = 1;
        }
        due(what + " throws", thrown, 1);
    }

    void finish() {
        System.out.println(name + ": " + checks + " checks, " + wrong + " wrong");
        if (wrong > 0) {
            System.exit(1);
        }
    }
}
