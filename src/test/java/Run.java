import java.util.ArrayList;
import java.util.List;
import java.util.function.ToLongFunction;

/**
 * A run of calls on a fresh object of the class, kept so that it can be played again. The document frees all answers
 * behind the 512th call, so a run that goes beyond it is a fault of the test.
 */
final class Run implements Election {
    static final int MOST_CALLS = 512;

    private record Call(String text, ToLongFunction<MixElection> made, long answer) {
    }

    private final int prime;
    private final int candidates;
    private final int trustees;
    private final int threshold;
    private final MixElection x;
    private final List<Call> calls = new ArrayList<>();

    Run(int prime, int candidates, int trustees, int threshold) {
        this.prime = prime;
        this.candidates = candidates;
        this.trustees = trustees;
        this.threshold = threshold;
        x = new MixElection(prime, candidates, trustees, threshold);
    }

    /** The same calls on another fresh object. */
    Run copy() {
        Run other = new Run(prime, candidates, trustees, threshold);
        for (Call call : calls) {
            other.did(call.text, call.made);
        }
        return other;
    }

    int size() {
        return calls.size();
    }

    /** How many calls the document still tells of. */
    int left() {
        return MOST_CALLS - calls.size();
    }

    List<Long> answersFrom(int first) {
        List<Long> answers = new ArrayList<>();
        for (Call call : calls.subList(first, calls.size())) {
            answers.add(call.answer);
        }
        return answers;
    }

    /** The run as it can be read: long ones with a gap. */
    @Override
    public String toString() {
        StringBuilder text = new StringBuilder("new(" + prime + ", " + candidates + ", " + trustees + ", " + threshold + ")");
        int gap = Math.max(0, calls.size() - 40);
        if (gap > 0) {
            text.append(" .. ").append(gap).append(" calls ..");
        }
        for (Call call : calls.subList(gap, calls.size())) {
            text.append(" ").append(call.text).append(" -> ").append(call.answer).append(";");
        }
        return text.toString();
    }

    private long did(String text, ToLongFunction<MixElection> made) {
        long answer = made.applyAsLong(x);
        calls.add(new Call(text, made, answer));
        if (calls.size() == MOST_CALLS + 1) {
            Due.yes("at most 512 calls in " + this, false);
        }
        return answer;
    }

    private static String text(String name, int... arguments) {
        StringBuilder text = new StringBuilder(name).append('(');
        for (int i = 0; i < arguments.length; i++) {
            text.append(i == 0 ? "" : ", ").append(arguments[i]);
        }
        return text.append(')').toString();
    }

    @Override
    public boolean secret(int i, int v) {
        return did(text("secret", i, v), x -> x.secret(i, v) ? 1 : 0) == 1;
    }

    @Override
    public int key() {
        return (int) did("key()", MixElection::key);
    }

    @Override
    public int voter() {
        return (int) did("voter()", MixElection::voter);
    }

    @Override
    public long cast(int voter, int candidate, int r) {
        return did(text("cast", voter, candidate, r), x -> x.cast(voter, candidate, r));
    }

    @Override
    public long castPair(int voter, int a, int b) {
        return did(text("castPair", voter, a, b), x -> x.castPair(voter, a, b));
    }

    @Override
    public int close() {
        return (int) did("close()", MixElection::close);
    }

    @Override
    public boolean place(int i, int to, int r) {
        return did(text("place", i, to, r), x -> x.place(i, to, r) ? 1 : 0) == 1;
    }

    @Override
    public boolean forge(int to, int a, int b) {
        return did(text("forge", to, a, b), x -> x.forge(to, a, b) ? 1 : 0) == 1;
    }

    @Override
    public int mix() {
        return (int) did("mix()", MixElection::mix);
    }

    @Override
    public int shadow() {
        return (int) did("shadow()", MixElection::shadow);
    }

    @Override
    public int coin(int c) {
        return (int) did(text("coin", c), x -> x.coin(c));
    }

    @Override
    public int share(int j) {
        return (int) did(text("share", j), x -> x.share(j));
    }

    @Override
    public int tally() {
        return (int) did("tally()", MixElection::tally);
    }

    @Override
    public int count(int c) {
        return (int) did(text("count", c), x -> x.count(c));
    }

    @Override
    public int about(int what) {
        return (int) did(text("about", what), x -> x.about(what));
    }

    @Override
    public int list(int m, int i, int part) {
        return (int) did(text("list", m, i, part), x -> x.list(m, i, part));
    }

    @Override
    public int shadowOf(int i, int part) {
        return (int) did(text("shadowOf", i, part), x -> x.shadowOf(i, part));
    }

    @Override
    public int shown(int i, int what) {
        return (int) did(text("shown", i, what), x -> x.shown(i, what));
    }

    @Override
    public int given(int j, int i) {
        return (int) did(text("given", j, i), x -> x.given(j, i));
    }

    @Override
    public long entry(int i, int what) {
        return did(text("entry", i, what), x -> x.entry(i, what));
    }

    @Override
    public long chain(int i) {
        return did(text("chain", i), x -> x.chain(i));
    }
}
