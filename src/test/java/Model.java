import java.math.BigInteger;
import java.util.ArrayList;
import java.util.HashSet;
import java.util.List;
import java.util.Map;
import java.util.TreeMap;

/** A second writing of the document, by big integers and collections; the TALLY opens by f0 itself, not by SHARES. */
final class Model implements Election {
    private static final BigInteger G = BigInteger.valueOf(4);

    private record Ballot(BigInteger a, BigInteger b) {
    }

    private record Move(int to, BigInteger r) {
    }

    private record Entry(long kind, long x, long y, long z, long chain) {
    }

    private final BigInteger p;
    private final BigInteger q;
    private final int c;
    private final int t;
    private final int k;
    private final BigInteger[] f;
    private final List<Entry> board = new ArrayList<>();
    private final TreeMap<Integer, Ballot> box = new TreeMap<>();
    private final List<List<Ballot>> lists = new ArrayList<>();
    private final List<Integer> roundsOfMixes = new ArrayList<>();
    private final TreeMap<Integer, Move> moves = new TreeMap<>();
    private final TreeMap<Integer, Ballot> forged = new TreeMap<>();
    private final TreeMap<Integer, List<BigInteger>> gifts = new TreeMap<>();
    private Map<Integer, Move> mixMoves;
    private Map<Integer, Move> shadowMoves;
    private Map<Integer, Move> shown;
    private List<Ballot> shadow;
    private int[] counts;
    private BigInteger h = BigInteger.ZERO;
    private int voters;
    private int stage;
    private int rejected;
    private boolean due;

    Model(int prime, int candidates, int trustees, int threshold) {
        int n = Math.min(999959, Math.max(11, prime));
        while (!isPrime(n) || !isPrime((n - 1) / 2)) {
            n++;
        }
        p = BigInteger.valueOf(n);
        q = BigInteger.valueOf((n - 1) / 2);
        c = Math.min(Math.min(10, Math.max(1, candidates)), q.intValue() - 2);
        t = Math.min(Math.min(5, Math.max(1, trustees)), q.intValue() - 1);
        k = Math.min(t, Math.max(1, threshold));
        f = new BigInteger[k];
        for (int i = 0; i < k; i++) {
            f[i] = i == 0 ? BigInteger.ONE : BigInteger.ZERO;
        }
    }

    private static boolean isPrime(int n) {
        return BigInteger.valueOf(n).isProbablePrime(50);
    }

    private static long digest(long d, long x) {
        return (d ^ x) * 1099511628211L;
    }

    private long post(long kind, long x, long y, long z) {
        long d = digest(digest(digest(digest(chain(board.size() - 1), kind), x), y), z);
        board.add(new Entry(kind, x, y, z, d));
        return d;
    }

    private static long digest(List<Ballot> list) {
        long d = 0;
        for (Ballot ballot : list) {
            d = digest(digest(d, ballot.a.longValue()), ballot.b.longValue());
        }
        return d;
    }

    private boolean exponent(int r) {
        return r >= 0 && BigInteger.valueOf(r).compareTo(q) < 0;
    }

    private boolean member(int a) {
        BigInteger x = BigInteger.valueOf(a);
        return a >= 1 && x.compareTo(p) < 0 && x.modPow(q, p).equals(BigInteger.ONE);
    }

    private Ballot anew(Ballot ballot, BigInteger r) {
        return new Ballot(ballot.a.multiply(G.modPow(r, p)).mod(p), ballot.b.multiply(h.modPow(r, p)).mod(p));
    }

    private BigInteger mark(int candidate) {
        return G.pow(candidate + 1).mod(p);
    }

    private List<Ballot> latest() {
        return lists.get(lists.size() - 1);
    }

    private boolean spot(int i) {
        return stage >= 2 && i >= 0 && i < lists.get(0).size();
    }

    @Override
    public boolean secret(int i, int v) {
        if (stage != 0 || i < 0 || i >= k || !exponent(v) || (i == 0 && v == 0)) {
            return false;
        }
        f[i] = BigInteger.valueOf(v);
        return true;
    }

    @Override
    public int key() {
        if (stage != 0) {
            return -1;
        }
        stage = 1;
        h = G.modPow(f[0], p);
        post(1, h.longValue(), t, k);
        return h.intValue();
    }

    @Override
    public int voter() {
        return stage >= 2 || voters == 40 ? -1 : voters++;
    }

    @Override
    public long cast(int voter, int candidate, int r) {
        if (candidate < 0 || candidate >= c || !exponent(r)) {
            return 0;
        }
        return castBallot(voter, anew(new Ballot(BigInteger.ONE, mark(candidate)), BigInteger.valueOf(r)));
    }

    @Override
    public long castPair(int voter, int a, int b) {
        if (!member(a) || !member(b)) {
            return 0;
        }
        return castBallot(voter, new Ballot(BigInteger.valueOf(a), BigInteger.valueOf(b)));
    }

    private long castBallot(int voter, Ballot ballot) {
        if (stage != 1 || voter < 0 || voter >= voters || board.size() >= 500) {
            return 0;
        }
        box.put(voter, ballot);
        return post(2, voter, ballot.a.longValue(), ballot.b.longValue());
    }

    @Override
    public int close() {
        if (stage != 1) {
            return -1;
        }
        stage = 2;
        lists.add(new ArrayList<>(box.values()));
        post(3, latest().size(), 0, digest(latest()));
        return latest().size();
    }

    @Override
    public boolean place(int i, int to, int r) {
        if (stage != 2 || !spot(i) || !spot(to) || !exponent(r)) {
            return false;
        }
        moves.put(i, new Move(to, BigInteger.valueOf(r)));
        return true;
    }

    @Override
    public boolean forge(int to, int a, int b) {
        if (stage != 2 || !spot(to) || !member(a) || !member(b)) {
            return false;
        }
        forged.put(to, new Ballot(BigInteger.valueOf(a), BigInteger.valueOf(b)));
        return true;
    }

    private boolean whole() {
        HashSet<Integer> targets = new HashSet<>();
        for (Move move : moves.values()) {
            targets.add(move.to);
        }
        return targets.size() == latest().size();
    }

    private List<Ballot> given(List<Ballot> from) {
        Ballot[] row = new Ballot[from.size()];
        for (int i = 0; i < row.length; i++) {
            row[moves.get(i).to] = anew(from.get(i), moves.get(i).r);
        }
        for (int to : forged.keySet()) {
            row[to] = forged.get(to);
        }
        moves.clear();
        forged.clear();
        shown = null;
        return List.of(row);
    }

    private boolean shuffles() {
        return stage == 2 && whole() && !due && gifts.isEmpty();
    }

    @Override
    public int mix() {
        if (!shuffles() || roundsOfMixes.size() == 4) {
            return -1;
        }
        mixMoves = new TreeMap<>(moves);
        lists.add(given(latest()));
        roundsOfMixes.add(0);
        post(4, roundsOfMixes.size(), 0, digest(latest()));
        return roundsOfMixes.size();
    }

    private int rounds() {
        return roundsOfMixes.isEmpty() ? 0 : roundsOfMixes.get(roundsOfMixes.size() - 1);
    }

    @Override
    public int shadow() {
        if (!shuffles() || roundsOfMixes.isEmpty() || rounds() == 8) {
            return -1;
        }
        shadowMoves = new TreeMap<>(moves);
        shadow = given(lists.get(lists.size() - 2));
        roundsOfMixes.set(roundsOfMixes.size() - 1, rounds() + 1);
        due = true;
        post(5, rounds(), roundsOfMixes.size(), digest(shadow));
        return rounds();
    }

    @Override
    public int coin(int coin) {
        if (!due || coin < 0 || coin > 1) {
            return -1;
        }
        due = false;
        shown = new TreeMap<>();
        for (int i = 0; i < latest().size(); i++) {
            Move s = shadowMoves.get(i);
            Move m = mixMoves.get(i);
            if (coin == 0) {
                shown.put(i, s);
            } else {
                shown.put(s.to, new Move(m.to, m.r.subtract(s.r).mod(q)));
            }
        }
        List<Ballot> from = coin == 0 ? lists.get(lists.size() - 2) : shadow;
        List<Ballot> into = coin == 0 ? shadow : latest();
        boolean accepted = true;
        for (int i = 0; i < from.size(); i++) {
            accepted &= anew(from.get(i), shown.get(i).r).equals(into.get(shown.get(i).to));
        }
        rejected += accepted ? 0 : 1;
        post(6, rounds(), coin, accepted ? 1 : 0);
        return accepted ? 1 : 0;
    }

    @Override
    public int share(int j) {
        if (stage != 2 || j < 1 || j > t || gifts.containsKey(j) || roundsOfMixes.isEmpty() || due) {
            return -1;
        }
        BigInteger value = BigInteger.ZERO;
        for (int i = 0; i < k; i++) {
            value = value.add(f[i].multiply(BigInteger.valueOf(j).pow(i)));
        }
        List<BigInteger> gift = new ArrayList<>();
        long d = 0;
        for (Ballot ballot : latest()) {
            BigInteger x = ballot.a.modPow(value.mod(q), p);
            gift.add(x);
            d = digest(d, x.longValue());
        }
        gifts.put(j, gift);
        post(7, j, 0, d);
        return gifts.size();
    }

    @Override
    public int tally() {
        if (stage != 2 || rejected > 0 || roundsOfMixes.contains(0) || gifts.size() < k) {
            return -1;
        }
        stage = 3;
        counts = new int[c + 1];
        for (Ballot ballot : latest()) {
            BigInteger opened = ballot.b.multiply(ballot.a.modPow(f[0], p).modInverse(p)).mod(p);
            int candidate = 0;
            while (candidate < c && !mark(candidate).equals(opened)) {
                candidate++;
            }
            counts[candidate]++;
        }
        long d = 0;
        for (int i = 0; i < c; i++) {
            d = digest(d, counts[i]);
        }
        post(8, latest().size() - counts[c], counts[c], d);
        return latest().size() - counts[c];
    }

    @Override
    public int count(int candidate) {
        return stage == 3 && candidate >= 0 && candidate <= c ? counts[candidate] : -1;
    }

    @Override
    public int about(int what) {
        if (what < 0 || what > 15) {
            return -1;
        }
        int whole = stage == 2 ? (whole() ? 1 : 0) : -1;
        int ballots = stage >= 2 ? latest().size() : -1;
        return new int[] {p.intValue(), q.intValue(), h.intValue(), c, t, k, voters, stage, board.size(), ballots,
            roundsOfMixes.size(), rounds(), rejected, gifts.size(), due ? 1 : 0, whole}[what];
    }

    private static int part(Ballot ballot, int part) {
        return part == 0 ? ballot.a.intValue() : part == 1 ? ballot.b.intValue() : -1;
    }

    @Override
    public int list(int m, int i, int part) {
        return m >= 0 && m < lists.size() && spot(i) ? part(lists.get(m).get(i), part) : -1;
    }

    @Override
    public int shadowOf(int i, int part) {
        return shadow != null && spot(i) ? part(shadow.get(i), part) : -1;
    }

    @Override
    public int shown(int i, int what) {
        if (shown == null || !shown.containsKey(i)) {
            return -1;
        }
        return what == 0 ? shown.get(i).to : what == 1 ? shown.get(i).r.intValue() : -1;
    }

    @Override
    public int given(int j, int i) {
        return gifts.containsKey(j) && spot(i) ? gifts.get(j).get(i).intValue() : -1;
    }

    @Override
    public long entry(int i, int what) {
        if (i < 0 || i >= board.size() || what < 0 || what > 3) {
            return 0;
        }
        Entry entry = board.get(i);
        return new long[] {entry.kind, entry.x, entry.y, entry.z}[what];
    }

    @Override
    public long chain(int i) {
        if (i == -1) {
            return new BigInteger("14695981039346656037").longValue();
        }
        return i >= 0 && i < board.size() ? board.get(i).chain : 0;
    }
}
