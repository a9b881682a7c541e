import java.util.Collections;
import java.util.List;
import java.util.Random;

/** Random runs of up to 512 calls on fresh objects: each answer is compared with the Model's, and at the end a look. */
public final class ModelTests {
    private static final int RUNS = 3000;
    /** Of so many fresh objects that play the run again, each asked as much as 512 calls leave room for. */
    private static final int OBJECTS_FOR_THE_LOOK = 3;
    private static final int[] WRONG = {-1, -2, Integer.MIN_VALUE, Integer.MAX_VALUE, 600, 41};

    private final Random random;
    private final Run x;
    private final Model model;
    private final int calls;
    private final int voters;
    private final int wrongOneIn;
    private final int forgedOneIn;
    private final int castsWanted;
    private int casts;

    private ModelTests(long seed) {
        random = new Random(seed);
        int prime = random.nextInt(3) == 0 ? random.nextInt(1100000) : random.nextInt(300) - 20;
        int candidates = random.nextInt(14) - 1;
        int trustees = random.nextInt(8) - 1;
        int threshold = random.nextInt(8) - 1;
        x = new Run(prime, candidates, trustees, threshold);
        model = new Model(prime, candidates, trustees, threshold);
        voters = random.nextInt(4) == 0 ? random.nextInt(42) : random.nextInt(8);
        wrongOneIn = random.nextBoolean() ? 12 : 200;
        forgedOneIn = random.nextBoolean() ? 20 : 100000;
        castsWanted = random.nextInt(25) == 0 ? 520 : voters * 2;
        calls = castsWanted > 500 ? Run.MOST_CALLS - 1 : 100 + random.nextInt(Run.MOST_CALLS - 100);
    }

    private static int reachedTold = 0;
    private static int reachedRejected = 0;

    public static void main(String[] args) {
        for (int seed = 0; seed < RUNS && Due.wrong() == 0; seed++) {
            ModelTests run = new ModelTests(seed);
            run.go();
            reachedTold += run.model.about(7) == 3 ? 1 : 0;
            reachedRejected += run.model.about(12) > 0 ? 1 : 0;
        }
        // Else the runs would not look at what they are for.
        Due.yes("a tenth of the runs reach TOLD", reachedTold > RUNS / 10);
        Due.yes("a tenth of the runs have a rejected round", reachedRejected > RUNS / 10);
        Due.end("ModelTests");
    }

    private void go() {
        for (int call = 0; call < calls && Due.wrong() == 0; call++) {
            if (random.nextInt(4) == 0) {
                ask();
            } else if (random.nextInt(25) == 0) {
                act(random.nextInt(13));
            } else {
                act(next());
            }
        }
        look();
    }

    /** An act that brings the election on. */
    private int next() {
        switch (model.about(7)) {
            case 0: return random.nextInt(6) == 0 ? 1 : random.nextBoolean() ? 0 : 2;
            case 1: return model.about(6) < voters ? 2 : casts++ > castsWanted ? 5 : random.nextInt(4) == 0 ? 4 : 3;
            case 2: return nextWhenClosed();
            default: return random.nextInt(13);
        }
    }

    private int nextWhenClosed() {
        if (model.about(14) == 1 && random.nextInt(3) > 0) {
            return 10;
        }
        if (random.nextInt(forgedOneIn) == 0) {
            return 7;
        }
        if (model.about(13) > 0 || (model.about(10) > 0 && random.nextInt(40) == 0)) {
            return random.nextInt(4) == 0 ? 12 : 11;
        }
        if (model.about(15) == 0) {
            return 6;
        }
        return model.about(10) == 0 || random.nextInt(5) == 0 ? 8 : 9;
    }

    private int pick(int bound) {
        if (random.nextInt(wrongOneIn) == 0) {
            return random.nextBoolean() ? bound : WRONG[random.nextInt(WRONG.length)];
        }
        return bound > 0 ? random.nextInt(bound) : 0;
    }

    private int exponent() {
        return pick(model.about(1));
    }

    private int member() {
        int a = 1 + random.nextInt(model.about(0) - 1);
        if (random.nextInt(wrongOneIn) == 0) {
            return random.nextBoolean() ? a : pick(model.about(0));
        }
        return (int) ((long) a * a % model.about(0));
    }

    private static long bit(boolean answer) {
        return answer ? 1 : 0;
    }

    private void same(String call, long got, long want) {
        Due.same(got == want ? call : x.toString(), got, want);
    }

    private void act(int act) {
        int v = pick(model.about(6));
        int i = pick(model.about(9));
        int to = pick(model.about(9));
        int r = exponent();
        int a = member();
        int b = member();
        switch (act) {
            case 0: {
                int at = pick(model.about(5));
                same("secret(" + at + ", " + r + ")", bit(x.secret(at, r)), bit(model.secret(at, r)));
                break;
            }
            case 1: same("key()", x.key(), model.key()); break;
            case 2: same("voter()", x.voter(), model.voter()); break;
            case 3: {
                int c = pick(model.about(3));
                same("cast(" + v + ", " + c + ", " + r + ")", x.cast(v, c, r), model.cast(v, c, r));
                break;
            }
            case 4: same("castPair(" + v + ", " + a + ", " + b + ")", x.castPair(v, a, b), model.castPair(v, a, b)); break;
            case 5: same("close()", x.close(), model.close()); break;
            case 6: placeTowardsWhole(i, to, r); break;
            case 7: same("forge(" + to + ", " + a + ", " + b + ")", bit(x.forge(to, a, b)), bit(model.forge(to, a, b))); break;
            case 8: same("mix()", x.mix(), model.mix()); break;
            case 9: same("shadow()", x.shadow(), model.shadow()); break;
            case 10: {
                int coin = pick(2);
                same("coin(" + coin + ")", x.coin(coin), model.coin(coin));
                break;
            }
            case 11: {
                int j = pick(model.about(4)) + 1;
                same("share(" + j + ")", x.share(j), model.share(j));
                break;
            }
            default: same("tally()", x.tally(), model.tally()); break;
        }
    }

    private int stagedAt = 0;
    private int step = 0;

    /** Mostly one place behind the other, each as far from where it was, so that the staging gets whole. */
    private void placeTowardsWhole(int i, int to, int r) {
        int n = model.about(9);
        if (n > 0 && random.nextInt(30) > 0) {
            i = stagedAt % n;
            to = (i * (n % 2 == 0 || n % 3 == 0 ? 1 : 2) + step) % n;
            stagedAt++;
            step = stagedAt % n == 0 ? random.nextInt(n) : step;
        }
        same("place(" + i + ", " + to + ", " + r + ")", bit(x.place(i, to, r)), bit(model.place(i, to, r)));
    }

    private void ask() {
        int i = pick(model.about(9));
        int part = pick(2);
        switch (random.nextInt(8)) {
            case 0: {
                int m = pick(model.about(10) + 1);
                same("list(" + m + ", " + i + ", " + part + ")", x.list(m, i, part), model.list(m, i, part));
                break;
            }
            case 1: same("shadowOf(" + i + ", " + part + ")", x.shadowOf(i, part), model.shadowOf(i, part)); break;
            case 2: same("shown(" + i + ", " + part + ")", x.shown(i, part), model.shown(i, part)); break;
            case 3: {
                int j = pick(model.about(4)) + 1;
                same("given(" + j + ", " + i + ")", x.given(j, i), model.given(j, i));
                break;
            }
            case 4: {
                int at = pick(model.about(8));
                int what = pick(4);
                same("entry(" + at + ", " + what + ")", x.entry(at, what), model.entry(at, what));
                break;
            }
            case 5: {
                int at = pick(model.about(8));
                same("chain(" + at + ")", x.chain(at), model.chain(at));
                break;
            }
            case 6: {
                int c = pick(model.about(3) + 1);
                same("count(" + c + ")", x.count(c), model.count(c));
                break;
            }
            default: {
                int what = pick(16);
                same("about(" + what + ")", x.about(what), model.about(what));
            }
        }
    }

    /** At the whole state if there is room for it, else at as much of it, taken here and there. */
    private void look() {
        List<Look.Question> questions = Look.questions(x);
        Collections.shuffle(questions, random);
        questions = questions.subList(0, Math.min(questions.size(), OBJECTS_FOR_THE_LOOK * x.left()));
        List<Long> seen = Look.behind(x, questions);
        for (int i = 0; i < seen.size(); i++) {
            long want = questions.get(i).asked().applyAsLong(model);
            Due.same(seen.get(i) == want ? "look" : questions.get(i).text() + " behind " + x, seen.get(i), want);
        }
    }
}
