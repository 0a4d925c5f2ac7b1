import java.nio.charset.StandardCharsets;
import java.nio.file.Files;
import java.nio.file.Path;

/** What the tests share: one object under test, texts told to it, and answers held against those that are due. */
final class Check {
    private final String name;
    private int checks;
    private int wrong;
    private int sentences;
    private String sentence = "";
    private String document;

    PaidByPoorer x;

    Check(String name) {
        this.name = name;
        fresh();
    }

    void fresh() {
        x = new PaidByPoorer();
    }

    /** A new object with a town. */
    void fresh(String town) {
        fresh();
        due("town " + town, town(town), town.split(";").length);
    }

    /** What follows, on a new object, holds these words of the document. */
    void says(String words) {
        sentence = " (" + words + ")";
        sentences++;
        due("words of the document", document().isEmpty() || document().contains(words), true);
        fresh();
    }

    /** Nothing, where the document is not at hand. */
    private String document() {
        if (document == null) {
            try {
                document = Files.readString(Path.of("../shared/DOC.md"), StandardCharsets.ISO_8859_1).replaceAll("\\s+", " ");
            } catch (java.io.IOException e) {
                document = "";
                System.out.println(name + ": the document is not read, so its words are not looked up");
            }
        }
        return document;
    }

    /** Tells a text, whatever stands there already, four signs at a time, and cuts what is too much. */
    void tell(String text) {
        int had = x.count(7);
        for (int i = 0; i < text.length(); i += 4) {
            int four = 0;
            for (int k = 0; k < 4; k++) {
                four = four << 8 | (i + k < text.length() ? text.charAt(i + k) & 255 : 0);
            }
            x.sign(four);
        }
        x.end(had + text.length());
    }

    int town(String text) {
        tell(text);
        return x.town();
    }

    int rule(String text) {
        tell(text);
        return x.rule();
    }

    void due(String what, long got, long want) {
        checks++;
        if (got != want) {
            wrong++;
            if (wrong <= 40) {
                System.out.println(name + sentence + ": " + what + " answered " + got + ", due is " + want);
            }
        }
    }

    void due(String what, boolean got, boolean want) {
        due(what, got ? 1 : 0, want ? 1 : 0);
    }

    void due(String what, String got, String want) {
        due(what + " (" + got + ", not " + want + ")", got.equals(want), true);
    }

    /** The ROW has these numbers, and no more. */
    void row(String what, long... want) {
        due(what + ": numbers of the ROW", x.count(6), want.length);
        for (int i = 0; i < want.length && i < x.count(6); i++) {
            due(what + ": row " + i, x.row(i), want[i]);
        }
    }

    interface Call {
        long made();
    }

    /** The call throws NoSuchElementException itself. */
    void none(String what, Call call) {
        int thrown = 0;
        try {
            call.made();
        } catch (java.util.NoSuchElementException e) {
            thrown = 1;
        }
        due(what + " throws", thrown, 1);
    }

    /** All that can be seen of the object by calls that change nothing, or what is put back at once. */
    String seen() {
        StringBuilder b = new StringBuilder("ROW");
        int people = x.count(0);
        int debts = x.count(1);
        int numbers = x.count(6);
        for (int i = 0; i < numbers; i++) {
            b.append(' ').append(x.row(i));
        }
        for (int what = 0; what < 4; what++) {
            int law = x.law(what, 0);
            x.law(what, law);
            b.append(" LAW ").append(law);
        }
        int counted = x.law(2, 1);
        for (int i = 0; i < people; i++) {
            b.append(" noon ").append(x.of(i, 4));
        }
        x.law(2, counted);
        for (int i = 0; i < people; i++) {
            b.append(" person");
            for (int what = 0; what < 9; what++) {
                b.append(' ').append(x.of(i, what));
            }
            for (int k = 0; k < people; k++) {
                b.append(' ').append(x.favour(i, k));
            }
        }
        for (int i = 0; i < debts; i++) {
            b.append(" debt");
            for (int what = 0; what < 6; what++) {
                b.append(' ').append(x.debt(i, what));
            }
        }
        b.append(" counts");
        for (int what = 0; what < 8; what++) {
            b.append(' ').append(x.count(what));
        }
        int r = x.seed(0);
        x.seed(r);
        return b.append(" R ").append(r).append(" TODAY ").append(x.today()).toString();
    }

    /** The call answers so, and leaves all that can be seen as it was. */
    void changesNothing(String what, Call call, long want) {
        String was = seen();
        due(what, call.made(), want);
        String is = seen();
        due(what + " changes nothing", is.equals(was), true);
        if (!is.equals(was)) {
            System.out.println("  was " + was + "\n  is  " + is);
        }
    }

    void finish() {
        System.out.println(name + ": " + (sentences > 0 ? sentences + " sentences, " : "") + checks + " checks, " + wrong
            + " wrong");
        if (wrong > 0) {
            System.exit(1);
        }
    }
}
