/** The boundary cases of 'Terms' II (STAGES), a test for each sentence that names one. */
public final class StagesBoundaryTests {
    private static final int NONE = Elections.NONE;

    public static void main(String[] args) {
        stagesInTurn();
        entriesOfEachKind();
        chainGoesOn();
        list0IsTheLastBallotOfEachVoter();
        list0OfNobody();
        list0Of40();
        listsAreOfAsMany();
        stagingIsEmptyAtFirst();
        stagingIsEmptyBehindMix();
        stagingIsEmptyBehindShadow();
        stagingStaysBehindAllElse();
        wholeIfEachPlaceGoesSomewhere();
        wholeIfNoTwoGoToTheSame();
        wholeOfNothing();
        wholeOf40();
        mixGoesFromTheLatestList();
        shadowGoesFromTheListAheadOfTheMix();
        coin0ShowsTheShadow();
        coin1ShowsTheWayToTheMix();
        coin1ShowsTheDifferenceModuloQ();
        acceptedIfEachPlaceIs();
        acceptedByBothParts();
        oneCoinEachShadow();
        shareIsOfTheLatestList();
        tallyByEachSetThatIsEnough();
        markOrNobody();
        electionWithVotersThatCastNone();
        electionOfNobody();
        Due.end("StagesBoundaryTests");
    }

    private static void entryIs(String sentence, Run x, int i, long... due) {
        for (int what = 0; what < 4; what++) {
            Due.same(sentence + ": entry(" + i + ", " + what + ")", x.entry(i, what), due[what]);
        }
    }

    private static long digestOfList(Run x, int m, int ballots) {
        long d = 0;
        for (int i = 0; i < ballots; i++) {
            d = Reckon.digest(d, x.list(m, i, 0), x.list(m, i, 1));
        }
        return d;
    }

    private static long digestOfShadow(Run x, int ballots) {
        long d = 0;
        for (int i = 0; i < ballots; i++) {
            d = Reckon.digest(d, x.shadowOf(i, 0), x.shadowOf(i, 1));
        }
        return d;
    }

    /** From key() on, from close() on, from tally() on: no other call goes on to the next stage. */
    private static void stagesInTurn() {
        Due.same("II: SETUP", new Run(23, 2, 3, 2).about(7), 0);
        Due.same("II: SETUP with voters", Elections.setup(3).about(7), 0);
        Run x = Elections.setup(3);
        x.key();
        Due.same("II: OPEN", x.about(7), 1);
        Due.same("II: OPEN with ballots", Elections.open(3).about(7), 1);
        Run[] closed = {Elections.closed(3), Elections.staged(3), Elections.mixed(3), Elections.due(3),
            Elections.accepted(3), Elections.rejected(3), Elections.shared(3), Elections.enough(3)};
        for (Run y : closed) {
            Due.same("II: CLOSED", y.about(7), 2);
        }
        Due.same("II: TOLD", Elections.told(3).about(7), 3);
    }

    /** 1 KEY .. 8 TALLY, each with its three numbers. */
    private static void entriesOfEachKind() {
        Run x = Elections.told(2);
        int[][] ballots = {{4, 4 * 18 % 23}, {16, 16 * pow(18, 2) % 23}};
        entryIs("II: 1 KEY: H, T, K", x, 0, 1, 18, 3, 2);
        entryIs("II: 2 CAST: voter, a, b", x, 1, 2, 0, ballots[0][0], ballots[0][1]);
        entryIs("II: 2 CAST: voter, a, b", x, 2, 2, 1, ballots[1][0], ballots[1][1]);
        long closed = Reckon.digest(0, ballots[0][0], ballots[0][1], ballots[1][0], ballots[1][1]);
        entryIs("II: 3 CLOSE: how many, 0, DIGEST", x, 3, 3, 2, 0, closed);
        entryIs("II: 4 MIX: its number, 0, DIGEST", x, 4, 4, 1, 0, digestOfList(x, 1, 2));
        entryIs("II: 5 SHADOW: its round, the mix, DIGEST", x, 5, 5, 1, 1, digestOfShadow(x, 2));
        entryIs("II: 6 COIN: its round, the coin, accepted", x, 6, 6, 1, 0, 1);
        entryIs("II: 7 SHARE: the trustee, 0, DIGEST", x, 7, 7, 3, 0, Reckon.digest(0, x.given(3, 0), x.given(3, 1)));
        entryIs("II: 7 SHARE: the trustee, 0, DIGEST", x, 8, 7, 1, 0, Reckon.digest(0, x.given(1, 0), x.given(1, 1)));
        entryIs("II: 8 TALLY: candidates', nobody's, DIGEST", x, 9, 8, 2, 0, Reckon.digest(0, 1, 1));
        Due.same("II: no other entry", x.about(8), 10);
        laterEntries();
    }

    private static int pow(int base, int exponent) {
        return Reckon.pow(base, exponent, 23);
    }

    /** The second mix, its second round, a coin that rejects. */
    private static void laterEntries() {
        Run x = Elections.accepted(2);
        x.forge(1, 2, 3);
        Elections.mixOn(x, 2, 0, 5);
        int at = x.about(8) - 1;
        entryIs("II: MIX 2", x, at, 4, 2, 0, digestOfList(x, 2, 2));
        Elections.roundOn(x, 2, 1, 5, 0);
        Elections.roundOn(x, 2, 1, 6, 1);
        entryIs("II: COIN that accepts", x, at + 2, 6, 1, 0, 1);
        entryIs("II: SHADOW 2 of mix 2", x, at + 3, 5, 2, 2, digestOfShadow(x, 2));
        entryIs("II: COIN that rejects", x, at + 4, 6, 2, 1, 0);
    }

    /** Of an entry: the DIGEST going on from the CHAIN ahead of it, from the told number on. */
    private static void chainGoesOn() {
        Run x = Elections.told(3);
        long chain = -3750763034362895579L;
        Due.same("II: CHAIN ahead of all", x.chain(NONE), chain);
        int entries = x.about(8);
        for (int i = 0; i < entries; i++) {
            chain = Reckon.digest(chain, x.entry(i, 0), x.entry(i, 1), x.entry(i, 2), x.entry(i, 3));
            Due.same("II: CHAIN of entry " + i, x.chain(i), chain);
        }
    }

    private static void listIs(String sentence, Run x, int m, int... due) {
        for (int i = 0; i < due.length; i++) {
            Due.same(sentence + ": place " + i / 2, x.list(m, i / 2, i % 2), due[i]);
        }
        Due.same(sentence + ": no more", x.list(m, due.length / 2, 0), NONE);
        Due.same(sentence + ": how many", x.about(9), due.length / 2);
    }

    /** By voters, not by when they cast; who cast none is passed, who cast again counts once. */
    private static void list0IsTheLastBallotOfEachVoter() {
        Run x = Elections.setup(6);
        x.key();
        x.castPair(4, 2, 3);
        x.castPair(1, 4, 6);
        x.castPair(4, 8, 9);
        x.cast(3, 0, 0);
        x.castPair(4, 12, 13);
        x.castPair(1, 16, 18);
        Due.same("II: LIST 0", x.close(), 3);
        listIs("II: LIST 0", x, 0, 16, 18, 1, 4, 12, 13);
        Run last = Elections.setup(40);
        last.key();
        last.castPair(39, 2, 3);
        Due.same("II: the last voter alone", last.close(), 1);
        listIs("II: the last voter alone", last, 0, 2, 3);
    }

    private static void list0OfNobody() {
        Run x = Elections.setup(5);
        x.key();
        Due.same("II: nobody cast a ballot", x.close(), 0);
        listIs("II: nobody cast a ballot", x, 0);
        Run y = Elections.setup(0);
        y.key();
        Due.same("II: there is no voter", y.close(), 0);
        listIs("II: there is no voter", y, 0);
    }

    private static void list0Of40() {
        Run x = Elections.closed(40);
        for (int i = 0; i < 40; i++) {
            int r = (i + 1) % 11;
            Due.same("II: a of 40", x.list(0, i, 0), pow(4, r));
            Due.same("II: b of 40", x.list(0, i, 1), pow(4, i % 2 + 1) * pow(18, r) % 23);
        }
        Due.same("II: no place 40", x.list(0, 40, 0), NONE);
        Due.same("II: DIGEST of 40", x.entry(41, 3), digestOfList(x, 0, 40));
    }

    /** LIST m: what mix m (1 .. 4) gave out, of as many. */
    private static void listsAreOfAsMany() {
        for (int ballots : new int[] {1, 2, 40}) {
            Run x = Elections.closed(ballots);
            for (int m = 1; m <= 4; m++) {
                Due.same("II: no LIST " + m + " yet", x.list(m, 0, 0), NONE);
                Elections.mixOn(x, ballots, 0, 0);
                Due.yes("II: LIST " + m, x.list(m, 0, 0) != NONE && x.list(m, ballots - 1, 1) != NONE);
                Due.same("II: of as many", x.list(m, ballots, 0), NONE);
            }
            Due.same("II: no LIST 5", x.list(5, 0, 0), NONE);
        }
    }

    private static void emptyStaging(String sentence, Run x) {
        Run whole = x.copy();
        Due.same(sentence + ": not whole", whole.about(15), 0);
        for (int left = 0; left < 3; left++) {
            Run y = x.copy();
            for (int i = 0; i < 3; i++) {
                if (i != left) {
                    y.place(i, i, 0);
                }
            }
            Due.same(sentence + ": nothing of place " + left, y.about(15), 0);
            y.place(left, left, 0);
            Due.same(sentence + ": whole with place " + left, y.about(15), 1);
        }
        Run y = x.copy();
        int m = y.about(10);
        Elections.mixOn(y, 3, 0, 0);
        for (int i = 0; i < 6; i++) {
            Due.same(sentence + ": nothing FORGED", y.list(m + 1, i / 2, i % 2), y.list(m, i / 2, i % 2));
        }
    }

    private static void stagingIsEmptyAtFirst() {
        emptyStaging("II: empty behind close()", Elections.closed(3));
        Run x = Elections.open(3);
        x.place(0, 0, 1);
        x.place(1, 1, 1);
        x.place(2, 2, 1);
        x.forge(0, 2, 3);
        x.close();
        emptyStaging("II: empty behind close(), whatever was told ahead of it", x);
    }

    private static void stagingIsEmptyBehindMix() {
        Run x = Elections.staged(3);
        x.forge(1, 4, 6);
        x.forge(2, 8, 9);
        x.mix();
        emptyStaging("II: empty behind mix()", x);
    }

    private static void stagingIsEmptyBehindShadow() {
        Run x = Elections.mixed(3);
        Elections.placeAll(x, 3, 1, 7);
        for (int i = 0; i < 3; i++) {
            x.forge(i, 2, 3);
        }
        x.shadow();
        Due.same("II: empty behind shadow()", x.about(15), 0);
        x.coin(0);
        emptyStaging("II: empty behind shadow()", x);
    }

    /** Behind coin(), share() and each refused call it is as it was. */
    private static void stagingStaysBehindAllElse() {
        Run x = Elections.due(3);
        Elections.placeAll(x, 3, 1, 7);
        x.forge(0, 2, 3);
        x.mix();
        x.shadow();
        x.close();
        x.key();
        x.tally();
        x.coin(1);
        Due.same("II: the STAGING stays", x.about(15), 1);
        Run y = x.copy();
        y.mix();
        listIs("II: the STAGING stays", y, 2, 2, 3, y.list(1, 0, 0) * pow(4, 7) % 23, y.list(1, 0, 1) * pow(18, 7) % 23,
            y.list(1, 1, 0) * pow(4, 7) % 23, y.list(1, 1, 1) * pow(18, 7) % 23);
        x.share(1);
        x.share(2);
        Due.same("II: the STAGING stays behind SHARES", x.about(15), 1);
    }

    private static void wholeIfEachPlaceGoesSomewhere() {
        for (int left = 0; left < 3; left++) {
            Run x = Elections.closed(3);
            for (int i = 0; i < 3; i++) {
                Due.same("II: not whole yet", x.about(15), 0);
                if (i != left) {
                    x.place(i, 2 - i, 0);
                }
            }
            Due.same("II: place " + left + " goes nowhere", x.about(15), 0);
            x.forge(2 - left, 2, 3);
            Due.same("II: a FORGED pair is no way for a place", x.about(15), 0);
            x.place(left, 2 - left, 0);
            Due.same("II: each place goes somewhere", x.about(15), 1);
        }
    }

    private static void wholeIfNoTwoGoToTheSame() {
        for (int one = 0; one < 3; one++) {
            for (int other = 0; other < 3; other++) {
                if (one != other) {
                    Run x = Elections.closed(3);
                    Elections.placeAll(x, 3, 1, 0);
                    x.place(one, (other + 1) % 3, 0);
                    Due.same("II: " + one + " and " + other + " go to the same", x.about(15), 0);
                    x.place(other, (one + 1) % 3, 0);
                    Due.same("II: no two go to the same", x.about(15), 1);
                }
            }
        }
    }

    private static void wholeOfNothing() {
        Due.same("II: whole, for there is no place", Elections.closed(0).about(15), 1);
        Due.same("II: whole, behind a mix", Elections.mixed(0).about(15), 1);
        Due.same("II: whole, behind a SHADOW", Elections.due(0).about(15), 1);
        Run x = Elections.closed(1);
        Due.same("II: one place, told nothing", x.about(15), 0);
        x.place(0, 0, 0);
        Due.same("II: one place that stays", x.about(15), 1);
    }

    private static void wholeOf40() {
        Run x = Elections.closed(40);
        for (int i = 0; i < 40; i++) {
            Due.same("II: not whole with " + i, x.about(15), 0);
            x.place(i, 39 - i, 10);
        }
        Due.same("II: whole with 40", x.about(15), 1);
        // Places that are 32 apart look alike where a shift forgets its upper bits.
        for (int to : new int[] {38, 7, 0, 32, 31}) {
            x.place(0, to, 10);
            Due.same("II: place 0 goes where place " + (39 - to) + " goes", x.about(15), 0);
        }
        x.place(0, 39, 10);
        Due.same("II: whole again", x.about(15), 1);
        Due.same("II: a mix of 40", x.mix(), 1);
        Due.same("II: the first went to the last", x.list(1, 39, 0), x.list(0, 0, 0) * pow(4, 10) % 23);
        Due.same("II: the last went to the first", x.list(1, 0, 1), x.list(0, 39, 1) * pow(18, 10) % 23);
    }

    /** Place to(i) of the next LIST is place i made anew, or what is FORGED there. */
    private static void mixGoesFromTheLatestList() {
        Run x = Elections.closed(3);
        for (int m = 1; m <= 4; m++) {
            x.forge(m % 3, 2, 3);
            Elections.mixOn(x, 3, m, m + 5);
            for (int i = 0; i < 3; i++) {
                int to = (i + m) % 3;
                boolean forged = to == m % 3;
                int a = x.list(m - 1, i, 0) * pow(4, m + 5) % 23;
                int b = x.list(m - 1, i, 1) * pow(18, m + 5) % 23;
                Due.same("II: mix " + m + ", a of " + to, x.list(m, to, 0), forged ? 2 : a);
                Due.same("II: mix " + m + ", b of " + to, x.list(m, to, 1), forged ? 3 : b);
            }
        }
    }

    /** A SHADOW of LIST m comes from LIST m - 1, be m 1 or 4, and leaves the LISTS as they are. */
    private static void shadowGoesFromTheListAheadOfTheMix() {
        Run x = Elections.closed(3);
        for (int m = 1; m <= 4; m++) {
            Elections.mixOn(x, 3, 1, m);
            long before = digestOfList(x, m, 3);
            x.forge(0, 2, 3);
            Elections.placeAll(x, 3, 2, 9);
            x.shadow();
            Due.same("II: FORGED in the SHADOW", x.shadowOf(0, 0), 2);
            Due.same("II: FORGED in the SHADOW", x.shadowOf(0, 1), 3);
            for (int i = 0; i < 3; i++) {
                int to = (i + 2) % 3;
                if (to != 0) {
                    Due.same("II: SHADOW of " + m, x.shadowOf(to, 0), x.list(m - 1, i, 0) * pow(4, 9) % 23);
                    Due.same("II: SHADOW of " + m, x.shadowOf(to, 1), x.list(m - 1, i, 1) * pow(18, 9) % 23);
                }
            }
            x.coin(0);
            Due.same("II: LIST " + m + " stays", digestOfList(x, m, 3), before);
        }
    }

    private static Run roundOfDifferentWays(int coin) {
        Run x = Elections.closed(3);
        x.place(0, 2, 1);
        x.place(1, 0, 5);
        x.place(2, 1, 10);
        x.mix();
        x.place(0, 0, 4);
        x.place(1, 2, 5);
        x.place(2, 1, 0);
        x.shadow();
        Due.same("II: accepted", x.coin(coin), 1);
        return x;
    }

    private static void coin0ShowsTheShadow() {
        Run x = roundOfDifferentWays(0);
        int[] to = {0, 2, 1};
        int[] r = {4, 5, 0};
        for (int i = 0; i < 3; i++) {
            Due.same("II: COIN 0: to(" + i + ")", x.shown(i, 0), to[i]);
            Due.same("II: COIN 0: EXPONENT of " + i, x.shown(i, 1), r[i]);
        }
    }

    /** Place to(i) of the SHADOW goes to where i went in the mix. */
    private static void coin1ShowsTheWayToTheMix() {
        Run x = roundOfDifferentWays(1);
        int[] to = {2, 1, 0};
        // Place 0 of the SHADOW was 0: 1 - 4; place 1 was 2: 10 - 0; place 2 was 1: 5 - 5.
        int[] r = {8, 10, 0};
        for (int i = 0; i < 3; i++) {
            Due.same("II: COIN 1: where " + i + " goes", x.shown(i, 0), to[i]);
            Due.same("II: COIN 1: EXPONENT of " + i, x.shown(i, 1), r[i]);
        }
    }

    private static void coin1ShowsTheDifferenceModuloQ() {
        for (int mixed = 0; mixed < 11; mixed++) {
            Run x = Elections.closed(1);
            Elections.mixOn(x, 1, 0, mixed);
            for (int r : new int[] {0, 1, mixed, (mixed + 1) % 11, 10}) {
                Due.same("II: accepted", Elections.roundOn(x, 1, 0, r, 1), 1);
                Due.same("II: " + mixed + " less " + r, x.shown(0, 1), (mixed - r + 11) % 11);
            }
        }
    }

    /** One place that is not, be it the first, one between or the last, is enough to reject. */
    private static void acceptedIfEachPlaceIs() {
        for (int ballots : new int[] {1, 3, 40}) {
            for (int wrong : new int[] {0, ballots / 2, ballots - 1}) {
                for (int coin = 0; coin < 2; coin++) {
                    Run x = Elections.closed(ballots);
                    Elections.mixOn(x, ballots, 1, 4);
                    x.forge(wrong, 2, 3);
                    Due.same("II: place " + wrong + " of " + ballots + " isn't", Elections.roundOn(x, ballots, 2, 7, coin), 0);
                    Due.same("II: all are", Elections.roundOn(x, ballots, 2, 7, coin), 1);
                }
            }
        }
    }

    /** A pair of which only a, or only b, is not what stands there; and one that is FORGED but is. */
    private static void acceptedByBothParts() {
        for (int coin = 0; coin < 2; coin++) {
            for (int wrong = 0; wrong < 3; wrong++) {
                Run x = Elections.mixed(3);
                int a = x.list(0, 1, 0) * pow(4, 7) % 23;
                int b = x.list(0, 1, 1) * pow(18, 7) % 23;
                x.forge(1, wrong == 0 ? a * 4 % 23 : a, wrong == 1 ? b * 4 % 23 : b);
                String part = wrong == 0 ? "a isn't" : wrong == 1 ? "b isn't" : "both are, though FORGED";
                Due.same("II: " + part, Elections.roundOn(x, 3, 0, 7, coin), wrong == 2 ? 1 : 0);
            }
        }
        forgedMix();
    }

    /** What a mix FORGED is seen by COIN 1 alone. */
    private static void forgedMix() {
        Run x = Elections.closed(3);
        x.forge(2, 2, 3);
        Elections.mixOn(x, 3, 1, 4);
        Due.same("II: COIN 0 of a FORGED mix", Elections.roundOn(x, 3, 2, 7, 0), 1);
        Due.same("II: COIN 1 of a FORGED mix", Elections.roundOn(x, 3, 2, 7, 1), 0);
        Elections.mixOn(x, 3, 1, 4);
        Due.same("II: COIN 1 of the next mix", Elections.roundOn(x, 3, 2, 7, 1), 1);
    }

    private static void oneCoinEachShadow() {
        Run x = Elections.due(3);
        Due.same("II: a COIN", x.coin(1), 1);
        Due.same("II: no other", x.coin(1), NONE);
        Due.same("II: no other", x.coin(0), NONE);
        Elections.placeAll(x, 3, 0, 0);
        Due.same("II: the next SHADOW", x.shadow(), 2);
        Due.same("II: has one of its own", x.coin(0), 1);
    }

    /** Of each ballot (a, b) of the latest LIST a^f(j): neither of LIST 0 nor of the first mix. */
    private static void shareIsOfTheLatestList() {
        Run x = Elections.mixed(3);
        Elections.mixOn(x, 3, 2, 9);
        int[] f = {0, 8, 2, 7};
        for (int j = 1; j <= 3; j++) {
            x.share(j);
            for (int i = 0; i < 3; i++) {
                Due.same("II: SHARE of " + j, x.given(j, i), pow(x.list(2, i, 0), f[j]));
            }
        }
    }

    /** From the SHARES of the first K: whichever they are, they give the same together, in the smallest group too. */
    private static void tallyByEachSetThatIsEnough() {
        for (int prime : new int[] {11, 23, 999959}) {
            for (int k = 1; k <= 5; k++) {
                for (int set = 0; set < 32; set++) {
                    tallyBySet(prime, k, set);
                }
            }
        }
    }

    private static void tallyBySet(int prime, int k, int set) {
        Run x = new Run(prime, 3, 5, k);
        int q = x.about(1);
        int trustees = x.about(4);
        int threshold = x.about(5);
        for (int i = 0; i < threshold; i++) {
            x.secret(i, (q - 1 - i) % q);
        }
        for (int v = 0; v < 4; v++) {
            x.voter();
        }
        x.key();
        for (int v = 0; v < 4; v++) {
            x.cast(v, v % 3, (v * 12345 + 1) % q);
        }
        x.close();
        Elections.mixOn(x, 4, 3, q - 1);
        Elections.roundOn(x, 4, 1, q / 2, 1);
        int gave = 0;
        // From the last trustee to the first: when they gave does not count.
        for (int j = trustees; j >= 1; j--) {
            if ((set >> (j - 1) & 1) == 1) {
                gave++;
                Due.same("II: SHARES", x.share(j), gave);
            }
        }
        int[] due = gave >= threshold ? new int[] {4, 2, 1, 1, 0} : new int[] {NONE, NONE, NONE, NONE, NONE};
        Due.same("II: TALLY by " + set + " of K " + threshold, x.tally(), due[0]);
        for (int c = 0; c <= 3; c++) {
            Due.same("II: for " + c, x.count(c), due[c + 1]);
        }
    }

    /** Each of the group, openly: the marks of the candidates there are, and for nobody all others. */
    private static void markOrNobody() {
        for (int candidates : new int[] {1, 2, 9}) {
            Run x = new Run(23, candidates, 1, 1);
            for (int v = 0; v < 11; v++) {
                x.voter();
            }
            x.key();
            for (int v = 0; v < 11; v++) {
                x.castPair(v, 1, pow(4, v));
            }
            x.close();
            Elections.mixOn(x, 11, 5, 3);
            Elections.roundOn(x, 11, 2, 8, 1);
            x.share(1);
            Due.same("II: for candidates", x.tally(), candidates);
            long digest = 0;
            for (int c = 0; c < candidates; c++) {
                Due.same("II: one for each", x.count(c), 1);
                digest = Reckon.digest(digest, 1);
            }
            Due.same("II: for nobody", x.count(candidates), 11 - candidates);
            int at = x.about(8) - 1;
            entryIs("II: TALLY", x, at, 8, candidates, 11 - candidates, digest);
        }
    }

    /** Who cast no ballot has no place: of 6 voters the last three, or the first three, or each second one cast. */
    private static void electionWithVotersThatCastNone() {
        for (int[] casting : new int[][] {{3, 4, 5}, {0, 1, 2}, {1, 3, 5}}) {
            Run x = Elections.setup(6);
            x.key();
            for (int v : casting) {
                x.cast(v, v % 2, v);
            }
            Due.same("II: 3 of 6 cast", x.close(), 3);
            entryIs("II: CLOSE of 3 of 6", x, 4, 3, 3, 0, digestOfList(x, 0, 3));
            Elections.placeAll(x, 3, 1, 4);
            Due.same("II: whole with 3 places", x.about(15), 1);
            Due.no("II: no fourth place", x.place(3, 3, 0));
            Due.same("II: a mix of 3", x.mix(), 1);
            entryIs("II: MIX of 3 of 6", x, 5, 4, 1, 0, digestOfList(x, 1, 3));
            for (int coin = 0; coin < 2; coin++) {
                Due.same("II: a round of 3", Elections.roundOn(x, 3, 2, 7, coin), 1);
                entryIs("II: SHADOW of 3 of 6", x, 6 + 2 * coin, 5, coin + 1, 1, digestOfShadow(x, 3));
                Due.same("II: nothing shown of a fourth", x.shown(3, 0), NONE);
            }
            x.share(1);
            x.share(2);
            long gifts = Reckon.digest(0, x.given(1, 0), x.given(1, 1), x.given(1, 2));
            entryIs("II: SHARE of 3 of 6", x, 10, 7, 1, 0, gifts);
            Due.same("II: nothing given for a fourth", x.given(1, 3), NONE);
            Due.same("II: TALLY of 3 of 6", x.tally(), 3);
            Due.same("II: for nobody", x.count(2), 0);
        }
    }

    /** An election in which nobody cast a ballot goes through all stages. */
    private static void electionOfNobody() {
        Run x = new Run(11, 2, 2, 2);
        x.voter();
        x.key();
        Due.same("nobody: close()", x.close(), 0);
        Due.same("nobody: ballots", x.about(9), 0);
        for (int m = 1; m <= 4; m++) {
            Due.same("nobody: mix()", x.mix(), m);
            for (int round = 1; round <= 8; round++) {
                Due.same("nobody: shadow()", x.shadow(), round);
                Due.same("nobody: coin()", x.coin(round % 2), 1);
            }
            Due.same("nobody: a ninth", x.shadow(), NONE);
        }
        Due.same("nobody: a fifth", x.mix(), NONE);
        Due.same("nobody: share()", x.share(1), 1);
        Due.same("nobody: share()", x.share(2), 2);
        Due.same("nobody: tally()", x.tally(), 0);
        for (int c = 0; c <= 2; c++) {
            Due.same("nobody: count()", x.count(c), 0);
        }
        Due.same("nobody: entries", x.about(8), 2 + 4 * 17 + 3);
        entryIs("nobody: TALLY", x, 72, 8, 0, 0, 0);
        Due.same("nobody: no place", x.list(0, 0, 0), NONE);
        Due.same("nobody: no place", x.list(4, 0, 0), NONE);
        Due.same("nobody: no place", x.shadowOf(0, 0), NONE);
        Due.same("nobody: no place", x.shown(0, 0), NONE);
        Due.same("nobody: no place", x.given(1, 0), NONE);
    }
}
