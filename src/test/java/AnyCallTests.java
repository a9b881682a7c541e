import java.util.Random;

/**
 * No call throws or fails to end, whatever its arguments, in any state, behind the 512th call too, where the answers
 * are free: they are not looked at here. What a call throws ends the test with another exit code than 0.
 */
public final class AnyCallTests {
    private static final int[] NUMBERS = {Integer.MIN_VALUE, Integer.MIN_VALUE + 1, -999960, -600, -41, -2, -1, 0, 1, 2, 3,
        4, 5, 6, 8, 9, 10, 11, 12, 22, 23, 31, 32, 39, 40, 41, 499, 500, 599, 600, 601, 499978, 499979, 999958, 999959,
        Integer.MAX_VALUE - 1, Integer.MAX_VALUE};
    private static final int KINDS = 21;

    private final Random random;
    private final MixElection x;

    private AnyCallTests(long seed) {
        random = new Random(seed);
        x = new MixElection(number(), number(), number(), number());
    }

    public static void main(String[] args) {
        for (int seed = 0; seed < 300; seed++) {
            AnyCallTests run = new AnyCallTests(seed);
            for (int call = 0; call < 2000; call++) {
                run.call(run.random.nextInt(KINDS));
            }
        }
        longestBoard();
        System.out.println("AnyCallTests: no call threw");
    }

    private int number() {
        return NUMBERS[random.nextInt(NUMBERS.length)];
    }

    private void call(int kind) {
        int a = number();
        int b = number();
        int c = number();
        switch (kind) {
            case 0: x.secret(a, b); break;
            case 1: keyLate(); break;
            case 2: x.voter(); break;
            case 3: x.cast(a, b, c); break;
            case 4: x.castPair(a, b, c); break;
            case 5: closeLate(); break;
            case 6: x.place(a, b, c); break;
            case 7: x.forge(a, b, c); break;
            case 8: x.mix(); break;
            case 9: x.shadow(); break;
            case 10: x.coin(a); break;
            case 11: x.share(a); break;
            case 12: x.tally(); break;
            case 13: x.count(a); break;
            case 14: x.about(a); break;
            case 15: x.list(a, b, c); break;
            case 16: x.shadowOf(a, b); break;
            case 17: x.shown(a, b); break;
            case 18: x.given(a, b); break;
            case 19: x.entry(a, b); break;
            default: x.chain(a); break;
        }
    }

    /** Seldom, else no other stage would last. */
    private void keyLate() {
        if (random.nextInt(10) == 0) {
            x.key();
        }
    }

    private void closeLate() {
        if (random.nextInt(20) == 0) {
            x.close();
        }
    }

    /** Each call that adds an entry, more often than it may: they add 575, the most that a board can have. */
    private static void longestBoard() {
        MixElection x = new MixElection(23, 2, 5, 5);
        x.voter();
        x.key();
        for (int n = 0; n < 600; n++) {
            x.cast(0, 0, 1);
        }
        x.close();
        for (int m = 0; m < 6; m++) {
            x.place(0, 0, 1);
            x.mix();
            for (int round = 0; round < 10; round++) {
                x.place(0, 0, 2);
                x.shadow();
                x.coin(round % 2);
            }
        }
        for (int j = 0; j <= 6; j++) {
            x.share(j);
        }
        x.tally();
        for (int i = 0; i <= 600; i++) {
            x.entry(i, 3);
            x.chain(i);
        }
    }
}
