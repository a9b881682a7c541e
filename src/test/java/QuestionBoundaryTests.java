import java.util.List;

/** The boundary cases of promises 16 to 22: what there is at each edge, and "NONE" or "0" a step beyond it. */
public final class QuestionBoundaryTests {
    private static final int NONE = Elections.NONE;
    private static final int MIN = Elections.MIN;
    private static final int MAX = Elections.MAX;
    private static final long AHEAD_OF_ALL = -3750763034362895579L;

    public static void main(String[] args) {
        aboutOfOthers();
        aboutHInSetupIs0();
        aboutVotersUpTo40();
        aboutEntries();
        aboutBallotsIsNoneAheadOfClose();
        aboutMixesAndRounds();
        aboutRejectedRounds();
        aboutSharesGiven();
        aboutCoinDue();
        aboutStagingIsNoneIfNotClosed();
        listAheadOfClose();
        listOfNoSuchM();
        listOfNoSuchPlace();
        listOfNoSuchPart();
        shadowOfNone();
        shadowOfNoSuchPlaceOrPart();
        shadowOfTheLatest();
        shownOfNoCoin();
        shownOfNoSuchPlaceOrWhat();
        shownNothingYetBehindAShadowOrMix();
        shownOfTheLatestCoin();
        givenOfWhoGaveNone();
        givenOfOthers();
        entryOfOthers();
        entryAtItsEdges();
        chainOfNoneIsAheadOfAll();
        chainOfOthers();
        questionsChangeNothing();
        Due.end("QuestionBoundaryTests");
    }

    /** A run of each stage, and of each state within CLOSED. */
    private static List<Run> all(int voters) {
        return List.of(new Run(23, 2, 3, 2), Elections.setup(voters), Elections.open(voters), Elections.closed(voters),
            Elections.staged(voters), Elections.mixed(voters), Elections.due(voters), Elections.accepted(voters),
            Elections.shared(voters), Elections.enough(voters), Elections.told(voters));
    }

    // ---- promise 16

    private static void aboutOfOthers() {
        for (Run x : all(3)) {
            for (int what : new int[] {MIN, -2, -1, 16, 17, 32, 256, MAX}) {
                Due.same("16: NONE for others: " + what, x.about(what), NONE);
            }
        }
    }

    private static void aboutHInSetupIs0() {
        Run x = new Run(23, 2, 3, 2);
        Due.same("16: H in SETUP", x.about(2), 0);
        x.secret(0, 3);
        Due.same("16: H in SETUP, behind secret()", x.about(2), 0);
        x.key();
        Due.same("16: H when OPEN", x.about(2), 18);
        Due.same("16: H when CLOSED", Elections.closed(3).about(2), 18);
        Due.same("16: H when TOLD", Elections.told(3).about(2), 18);
    }

    private static void aboutVotersUpTo40() {
        Run x = new Run(23, 2, 3, 2);
        for (int v = 0; v <= 41; v++) {
            Due.same("16: voters", x.about(6), Math.min(v, 40));
            x.voter();
        }
        Due.same("16: voters when TOLD", Elections.told(3).about(6), 3);
    }

    private static void aboutEntries() {
        int[] due = {0, 0, 4, 5, 5, 6, 7, 8, 9, 10, 11};
        List<Run> runs = all(3);
        for (int i = 0; i < due.length; i++) {
            Due.same("16: entries of run " + i, runs.get(i).about(8), due[i]);
        }
    }

    private static void aboutBallotsIsNoneAheadOfClose() {
        Due.same("16: ballots in SETUP", Elections.setup(3).about(9), NONE);
        Due.same("16: ballots when OPEN", Elections.open(3).about(9), NONE);
        Due.same("16: ballots when OPEN, of nobody", Elections.open(0).about(9), NONE);
        for (int voters : new int[] {0, 1, 3, 40}) {
            Due.same("16: ballots when CLOSED", Elections.closed(voters).about(9), voters);
            Due.same("16: ballots behind a mix", Elections.mixed(voters).about(9), voters);
            Due.same("16: ballots when TOLD", Elections.told(voters).about(9), voters);
        }
    }

    private static void aboutMixesAndRounds() {
        Run x = Elections.closed(2);
        Due.same("16: no mix", x.about(10), 0);
        Due.same("16: no mix, no round", x.about(11), 0);
        for (int m = 1; m <= 4; m++) {
            Elections.mixOn(x, 2, 1, 1);
            Due.same("16: mixes", x.about(10), m);
            Due.same("16: rounds of the latest mix", x.about(11), 0);
            for (int round = 1; round <= 3; round++) {
                Elections.roundOn(x, 2, 1, 1, 0);
                Due.same("16: rounds of the latest mix", x.about(11), round);
            }
        }
        Due.same("16: mixes when TOLD", Elections.told(3).about(10), 1);
        Due.same("16: rounds when TOLD", Elections.told(3).about(11), 1);
    }

    private static void aboutRejectedRounds() {
        Run x = Elections.mixed(2);
        for (int round = 1; round <= 8; round++) {
            Due.same("16: rejected rounds", x.about(12), round - 1);
            x.forge(0, 2, 3);
            Elections.roundOn(x, 2, 1, 1, 0);
        }
        Due.same("16: rejected rounds", x.about(12), 8);
        Elections.mixOn(x, 2, 1, 1);
        Elections.roundOn(x, 2, 1, 1, 0);
        Due.same("16: rejected rounds stay behind an accepted one", x.about(12), 8);
    }

    private static void aboutSharesGiven() {
        Run x = Elections.accepted(3);
        for (int j = 1; j <= 3; j++) {
            Due.same("16: SHARES given", x.about(13), j - 1);
            x.share(j);
        }
        Due.same("16: SHARES given", x.about(13), 3);
        x.tally();
        Due.same("16: SHARES given when TOLD", x.about(13), 3);
    }

    private static void aboutCoinDue() {
        int[] due = {0, 0, 0, 0, 0, 0, 1, 0, 0, 0, 0};
        for (int voters : new int[] {0, 3}) {
            List<Run> runs = all(voters);
            for (int i = 0; i < due.length; i++) {
                Due.same("16: whether a COIN is due in run " + i, runs.get(i).about(14), due[i]);
            }
        }
    }

    /** Also of nobody, whose STAGING is whole, and when TOLD with what was staged ahead of it. */
    private static void aboutStagingIsNoneIfNotClosed() {
        int[] of3 = {NONE, NONE, NONE, 0, 1, 0, 0, 0, 0, 0, NONE};
        int[] of0 = {NONE, NONE, NONE, 1, 1, 1, 1, 1, 1, 1, NONE};
        for (int i = 0; i < of3.length; i++) {
            Due.same("16: whether the STAGING is whole in run " + i, all(3).get(i).about(15), of3[i]);
            Due.same("16: whether the STAGING of nobody is whole in run " + i, all(0).get(i).about(15), of0[i]);
        }
        Run x = Elections.enough(3);
        Elections.placeAll(x, 3, 0, 0);
        Due.same("16: whole", x.about(15), 1);
        x.tally();
        Due.same("16: TOLD", x.about(15), NONE);
    }

    // ---- promise 17

    private static void listAheadOfClose() {
        for (Run x : List.of(Elections.setup(3), Elections.open(3), Elections.open(40))) {
            for (int i = 0; i < 3; i++) {
                Due.same("17: no LIST 0 ahead of close()", x.list(0, i, 0), NONE);
                Due.same("17: no LIST 0 ahead of close()", x.list(0, i, 1), NONE);
            }
        }
    }

    private static void listOfNoSuchM() {
        for (Run x : all(3)) {
            for (int m : new int[] {MIN, -2, -1, 5, 6, MAX}) {
                Due.same("17: no LIST " + m, x.list(m, 0, 0), NONE);
            }
        }
        Run x = Elections.closed(3);
        for (int m = 0; m <= 4; m++) {
            for (int later = m + 1; later <= 5; later++) {
                Due.same("17: no LIST " + later + " yet", x.list(later, 0, 0), NONE);
            }
            for (int there = 0; there <= m; there++) {
                Due.yes("17: LIST " + there, x.list(there, 0, 0) > 0 && x.list(there, 2, 1) > 0);
            }
            Elections.mixOn(x, 3, 1, 1);
        }
    }

    private static void listOfNoSuchPlace() {
        for (int ballots : new int[] {0, 1, 3, 40}) {
            Run x = Elections.told(ballots);
            for (int i : new int[] {MIN, -2, -1, ballots, ballots + 1, 40, 41, MAX}) {
                for (int m = 0; m <= 1; m++) {
                    Due.same("17: no place " + i + " of " + ballots, x.list(m, i, 0), NONE);
                    Due.same("17: no place " + i + " of " + ballots, x.list(m, i, 1), NONE);
                }
            }
            if (ballots > 0) {
                Due.yes("17: the first place", x.list(0, 0, 0) > 0 && x.list(1, 0, 1) > 0);
                Due.yes("17: the last place", x.list(0, ballots - 1, 1) > 0 && x.list(1, ballots - 1, 0) > 0);
            }
        }
    }

    private static void listOfNoSuchPart() {
        Run x = Elections.mixed(3);
        for (int part : new int[] {MIN, -2, -1, 2, 3, MAX}) {
            Due.same("17: no part " + part, x.list(0, 0, part), NONE);
            Due.same("17: no part " + part, x.list(1, 2, part), NONE);
        }
        Due.same("17: a", x.list(0, 0, 0), 4);
        Due.same("17: b", x.list(0, 0, 1), 4 * 18 % 23);
    }

    // ---- promise 18

    private static void shadowOfNone() {
        for (Run x : List.of(new Run(23, 2, 3, 2), Elections.setup(3), Elections.open(3), Elections.closed(3),
                Elections.staged(3), Elections.mixed(3))) {
            for (int i = 0; i < 3; i++) {
                Due.same("18: there is no SHADOW", x.shadowOf(i, 0), NONE);
                Due.same("18: there is no SHADOW", x.shadowOf(i, 1), NONE);
            }
        }
        Due.same("18: a SHADOW of nobody has no place", Elections.due(0).shadowOf(0, 0), NONE);
    }

    private static void shadowOfNoSuchPlaceOrPart() {
        for (int ballots : new int[] {1, 3, 40}) {
            Run x = Elections.due(ballots);
            for (int i : new int[] {MIN, -2, -1, ballots, ballots + 1, 40, 41, MAX}) {
                Due.same("18: no place " + i + " of " + ballots, x.shadowOf(i, 0), NONE);
                Due.same("18: no place " + i + " of " + ballots, x.shadowOf(i, 1), NONE);
            }
            for (int part : new int[] {MIN, -2, -1, 2, 3, MAX}) {
                Due.same("18: no part " + part, x.shadowOf(0, part), NONE);
                Due.same("18: no part " + part, x.shadowOf(ballots - 1, part), NONE);
            }
            Due.yes("18: the first place", x.shadowOf(0, 0) > 0 && x.shadowOf(0, 1) > 0);
            Due.yes("18: the last place", x.shadowOf(ballots - 1, 0) > 0 && x.shadowOf(ballots - 1, 1) > 0);
        }
    }

    /** Behind its COIN, behind SHARES and the TALLY it is still the latest; the next SHADOW takes its place. */
    private static void shadowOfTheLatest() {
        int a = 16 * Reckon.pow(4, 7, 23) % 23;
        int b = 16 * Reckon.pow(18, 2 + 7, 23) % 23;
        for (Run x : List.of(Elections.due(3), Elections.accepted(3), Elections.shared(3), Elections.told(3))) {
            // Place 1, for candidate 1 with the exponent 2, went to place 0.
            Due.same("18: a of the latest SHADOW", x.shadowOf(0, 0), a);
            Due.same("18: b of the latest SHADOW", x.shadowOf(0, 1), b);
        }
        Run x = Elections.accepted(3);
        Elections.placeAll(x, 3, 2, 8);
        Due.same("18: a STAGING is none", x.shadowOf(0, 0), a);
        x.shadow();
        Due.same("18: a of the next SHADOW", x.shadowOf(0, 0), a * 4 % 23);
        Due.same("18: b of the next SHADOW", x.shadowOf(0, 1), b * 18 % 23);
    }

    // ---- promise 19

    private static void shownNothing(String sentence, Run x) {
        for (int i = 0; i < 3; i++) {
            Due.same(sentence, x.shown(i, 0), NONE);
            Due.same(sentence, x.shown(i, 1), NONE);
        }
    }

    private static void shownOfNoCoin() {
        for (Run x : List.of(new Run(23, 2, 3, 2), Elections.setup(3), Elections.open(3), Elections.closed(3),
                Elections.staged(3), Elections.mixed(3), Elections.due(3), Elections.accepted(0))) {
            shownNothing("19: no COIN showed anything", x);
        }
        Run refused = Elections.due(3);
        refused.coin(2);
        shownNothing("19: no coin shows nothing", refused);
    }

    private static void shownOfNoSuchPlaceOrWhat() {
        for (int coin = 0; coin < 2; coin++) {
            for (int ballots : new int[] {1, 3, 40}) {
                Run x = Elections.due(ballots);
                x.coin(coin);
                for (int i : new int[] {MIN, -2, -1, ballots, ballots + 1, 40, 41, MAX}) {
                    Due.same("19: no place " + i + " of " + ballots, x.shown(i, 0), NONE);
                    Due.same("19: no place " + i + " of " + ballots, x.shown(i, 1), NONE);
                }
                for (int what : new int[] {MIN, -2, -1, 2, 3, MAX}) {
                    Due.same("19: no what " + what, x.shown(0, what), NONE);
                    Due.same("19: no what " + what, x.shown(ballots - 1, what), NONE);
                }
                Due.yes("19: the first place", x.shown(0, 0) >= 0 && x.shown(0, 1) >= 0);
                Due.yes("19: the last place", x.shown(ballots - 1, 0) >= 0 && x.shown(ballots - 1, 1) >= 0);
            }
        }
    }

    /** (A new SHADOW, or mix, shows nothing yet.) A refused one takes nothing away. */
    private static void shownNothingYetBehindAShadowOrMix() {
        for (int coin = 0; coin < 2; coin++) {
            Run x = Elections.due(3);
            x.coin(coin);
            int where = x.shown(0, 0);
            x.shadow();
            x.mix();
            Due.same("19: refused ones take nothing away", x.shown(0, 0), where);
            Elections.placeAll(x, 3, 1, 1);
            x.forge(0, 2, 3);
            Due.same("19: a STAGING takes nothing away", x.shown(0, 0), where);
            Run mixed = x.copy();
            x.shadow();
            shownNothing("19: a new SHADOW shows nothing yet", x);
            mixed.mix();
            shownNothing("19: a new mix shows nothing yet", mixed);
            x.coin(coin);
            Due.yes("19: its COIN shows", x.shown(2, 0) >= 0);
        }
    }

    /** Also of a COIN that rejects, behind SHARES, and when TOLD. */
    private static void shownOfTheLatestCoin() {
        for (Run x : List.of(Elections.accepted(3), Elections.rejected(3), Elections.shared(3), Elections.told(3))) {
            for (int i = 0; i < 3; i++) {
                Due.same("19: where it goes", x.shown(i, 0), (i + 2) % 3);
                Due.same("19: the EXPONENT", x.shown(i, 1), 7);
            }
        }
    }

    // ---- promise 20

    private static void givenOfWhoGaveNone() {
        for (Run x : List.of(new Run(23, 2, 3, 2), Elections.setup(3), Elections.open(3), Elections.closed(3),
                Elections.mixed(3), Elections.due(3), Elections.accepted(3))) {
            for (int j = 1; j <= 3; j++) {
                Due.same("20: it gave none", x.given(j, 0), NONE);
            }
        }
        Run x = Elections.told(3);
        Due.same("20: 2 gave none", x.given(2, 0), NONE);
        Due.yes("20: 1 and 3 did", x.given(1, 0) > 0 && x.given(3, 0) > 0);
    }

    private static void givenOfOthers() {
        for (int ballots : new int[] {0, 1, 3, 40}) {
            Run x = Elections.told(ballots);
            for (int i : new int[] {MIN, -2, -1, ballots, ballots + 1, 40, 41, MAX}) {
                Due.same("20: no place " + i + " of " + ballots, x.given(1, i), NONE);
                Due.same("20: no place " + i + " of " + ballots, x.given(3, i), NONE);
            }
            for (int j : new int[] {MIN, -2, -1, 0, 4, 5, 6, 7, MAX}) {
                Due.same("20: no trustee " + j, x.given(j, 0), NONE);
            }
            if (ballots > 0) {
                Due.yes("20: the first place", x.given(1, 0) > 0 && x.given(3, 0) > 0);
                Due.yes("20: the last place", x.given(1, ballots - 1) > 0 && x.given(3, ballots - 1) > 0);
            }
        }
        Run all = new Run(23, 1, 5, 1);
        all.voter();
        all.key();
        all.castPair(0, 4, 4);
        all.close();
        Elections.mixOn(all, 1, 0, 0);
        all.share(5);
        Due.same("20: the last of 5 trustees", all.given(5, 0), 4);
        Due.same("20: no trustee behind 5", all.given(6, 0), NONE);
    }

    // ---- promises 21 and 22

    private static void entryOfOthers() {
        for (Run x : all(3)) {
            int entries = x.about(8);
            for (int what = 0; what < 4; what++) {
                for (int i : new int[] {MIN, -2, -1, entries, entries + 1, 599, 600, 601, MAX}) {
                    Due.same("21: 0 for others: entry " + i + " of " + entries, x.entry(i, what), 0);
                }
            }
            for (int what : new int[] {MIN, -2, -1, 4, 5, MAX}) {
                Due.same("21: 0 for others: what " + what, x.entry(0, what), 0);
                Due.same("21: 0 for others: what " + what, x.entry(entries - 1, what), 0);
            }
        }
    }

    private static void entryAtItsEdges() {
        Run x = Elections.told(3);
        long[] first = {1, 18, 3, 2};
        long[] last = {8, 3, 0, Reckon.digest(0, 2, 1)};
        for (int what = 0; what < 4; what++) {
            Due.same("21: the first entry", x.entry(0, what), first[what]);
            Due.same("21: the latest entry", x.entry(10, what), last[what]);
        }
    }

    private static void chainOfNoneIsAheadOfAll() {
        for (Run x : all(3)) {
            Due.same("22: of NONE that ahead of all", x.chain(NONE), AHEAD_OF_ALL);
        }
    }

    private static void chainOfOthers() {
        for (Run x : all(3)) {
            int entries = x.about(8);
            for (int i : new int[] {MIN, -3, -2, entries, entries + 1, 599, 600, 601, MAX}) {
                Due.same("22: 0 for others: entry " + i + " of " + entries, x.chain(i), 0);
            }
            if (entries > 0) {
                Due.same("22: the first entry", x.chain(0), Reckon.digest(AHEAD_OF_ALL, 1, 18, 3, 2));
                Due.yes("22: the latest entry", x.chain(entries - 1) != 0);
            }
        }
    }

    /** All that can be asked is asked, ahead of each way on: nothing comes of it. */
    private static void questionsChangeNothing() {
        for (Run run : all(3)) {
            List<Look.Question> questions = Look.questions(run);
            Refusals.refused("16 to 22: a question changes nothing", run, x -> askAll(x, questions), questions.size());
        }
    }

    private static int askAll(Run x, List<Look.Question> questions) {
        int asked = 0;
        for (Look.Question question : questions) {
            question.asked().applyAsLong(x);
            asked++;
        }
        return asked;
    }
}
