import java.util.NoSuchElementException;
import java.util.Random;

/** Calls with any numbers, in any state: what the document names is thrown, where it names it, and nothing else. */
public final class ExtremesTest {
    private static final int[] ODD = {Integer.MIN_VALUE, Integer.MIN_VALUE + 1, -65536, -129, -2, -1, 0, 1, 2, 3, 4, 7, 8, 9,
        10, 11, 31, 32, 33, 60, 61, 63, 64, 76, 77, 80, 81, 99, 100, 255, 256, 998, 999, 1000, 65535, Integer.MAX_VALUE};
    private static final String SIGNS = "0123456789,;!d>*@icaspfog<=+-/() \0";

    private final Random random;
    private final PaidByPoorer x = new PaidByPoorer();

    private ExtremesTest(long run) {
        random = new Random(run);
    }

    public static void main(String[] args) {
        int wrong = 0;
        for (int run = 0; run < 1500 && wrong < 5; run++) {
            ExtremesTest test = new ExtremesTest(run);
            test.start();
            for (int i = 0; i < 480; i++) {
                int call = test.random.nextInt(46);
                try {
                    test.call(call);
                } catch (NoSuchElementException e) {
                    wrong += call == 5 || call == 6 || call == 39 || call == 45 ? 0 : tell(run, i, call, e);
                } catch (RuntimeException e) {
                    wrong += tell(run, i, call, e);
                }
            }
        }
        System.out.println("ExtremesTest: " + wrong + " wrong");
        if (wrong > 0) {
            System.exit(1);
        }
    }

    private static int tell(int run, int i, int call, RuntimeException e) {
        System.out.println("run " + run + ", call " + i + " of kind " + call + " threw " + e);
        e.printStackTrace(System.out);
        return 1;
    }

    private void text(String text) {
        for (int i = 0; i + 4 <= text.length(); i += 4) {
            x.sign(text.charAt(i) << 24 | text.charAt(i + 1) << 16 | text.charAt(i + 2) << 8 | text.charAt(i + 3));
        }
        x.end(text.trim().length());
    }

    private void start() {
        StringBuilder b = new StringBuilder();
        int people = random.nextInt(9);
        for (int i = 0; i < people; i++) {
            b.append(i > 0 ? ";" : "").append(random.nextInt(1000)).append(",").append(random.nextInt(100));
        }
        text(b + "   ");
        x.town();
        for (int k = 0; k < 2 && people > 1; k++) {
            b.setLength(0);
            for (int i = random.nextInt(5); i >= 0; i--) {
                int from = random.nextInt(people);
                b.append(b.length() > 0 ? ";" : "").append("d").append(from).append(">");
                b.append((from + 1 + random.nextInt(people - 1)) % people).append("*").append(1 + random.nextInt(99));
                b.append("@").append(random.nextInt(5));
            }
            text(b + "   ");
            x.town();
        }
    }

    private int any() {
        int kind = random.nextInt(10);
        return kind < 6 ? random.nextInt(9) : kind < 9 ? ODD[random.nextInt(ODD.length)] : random.nextInt();
    }

    private int signs() {
        int four = 0;
        for (int i = 0; i < 4; i++) {
            four = four << 8 | SIGNS.charAt(random.nextInt(SIGNS.length()));
        }
        return random.nextInt(20) == 0 ? random.nextInt() : four;
    }

    private long call(int call) {
        switch (call) {
            case 0: return x.count(any());
            case 1: return x.sign(signs());
            case 2: return x.end(any()) ? 1 : 0;
            case 3: return x.town();
            case 4: return x.rule();
            case 5: return x.of(any(), any());
            case 6: return x.debt(any(), any());
            case 7: return x.law(any(), any());
            case 8: return random.nextInt(4) > 0 ? 0 : x.sheet(any(), any(), any(), any());
            case 9: return x.noon();
            case 10: return x.hide(any(), any());
            case 11: return x.search(any(), any());
            case 12: return x.below(any());
            case 13: return x.may(any());
            case 14: return x.willing(any());
            case 15: return x.pay(any(), any());
            case 16: return x.undo();
            case 17: return x.judge(any(), any());
            case 18: return x.favour(any(), any());
            case 19: return x.nets();
            case 20: return x.give(any(), any(), any()) ? 1 : 0;
            case 21: return x.lend(any(), any(), any());
            case 22: return x.back();
            case 23: return x.gift(any());
            case 24: return x.poorer(any(), any());
            case 25: return x.most(any());
            case 26: return x.all(any());
            case 27: return x.never(any());
            case 28: return x.ways(any());
            case 29: return x.ahead(any(), any());
            case 30: return x.fewest(any());
            case 31: return x.sorts(any());
            case 32: return x.flow(any());
            case 33: return x.proof(any());
            case 34: return x.gap(any(), any());
            case 35: return x.lowest();
            case 36: return x.lapse(any());
            case 37: return random.nextInt(20) > 0 ? 0 : x.days(any());
            case 38: return x.best(any());
            case 39: return x.pays(any(), any(), any());
            case 40: return x.spread();
            case 41: return x.today();
            case 42: return x.seed(any());
            case 43: return x.keep(any()) ? 1 : 0;
            case 44: return x.again(any()) ? 1 : 0;
            default: return x.row(any());
        }
    }
}
