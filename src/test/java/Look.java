import java.util.ArrayList;
import java.util.List;
import java.util.function.ToLongFunction;

/** The whole state of an election, as far as it can be asked for, with a step beyond each edge. */
final class Look {
    record Question(String text, ToLongFunction<Election> asked) {
    }

    private Look() {
    }

    /** The answers to the questions behind a run, on as many fresh objects as 512 calls each can answer them. */
    static List<Long> behind(Run run, List<Question> questions) {
        List<Long> seen = new ArrayList<>();
        Due.yes("there is a call left for a question in " + run, run.left() > 0);
        Run played = null;
        for (Question question : questions) {
            if (played == null || played.left() <= 0) {
                played = run.copy();
            }
            seen.add(question.asked.applyAsLong(played));
        }
        return seen;
    }

    static void alike(String what, Run one, Run other) {
        List<Question> questions = questions(one);
        List<Long> ofOne = behind(one, questions);
        List<Long> ofOther = behind(other, questions);
        for (int i = 0; i < ofOne.size(); i++) {
            boolean same = ofOne.get(i).equals(ofOther.get(i));
            String text = same ? what : what + ": " + questions.get(i).text + " behind " + other;
            Due.same(text, ofOther.get(i), ofOne.get(i));
        }
    }

    static List<Question> questions(Run run) {
        int[] about = new int[17];
        List<Question> asked = new ArrayList<>();
        for (int i = -1; i <= 16; i++) {
            int what = i;
            asked.add(new Question("about(" + what + ")", x -> x.about(what)));
        }
        List<Long> answers = behind(run, asked);
        for (int what = 0; what <= 15; what++) {
            about[what] = answers.get(what + 1).intValue();
        }
        int ballots = Math.max(0, about[9]);
        addCounts(asked, about[3]);
        addLists(asked, about[10], ballots);
        addShown(asked, ballots);
        addGiven(asked, about[4], ballots);
        addBoard(asked, about[8]);
        return asked;
    }

    private static void addCounts(List<Question> asked, int candidates) {
        for (int i = -1; i <= candidates + 1; i++) {
            int c = i;
            asked.add(new Question("count(" + c + ")", x -> x.count(c)));
        }
    }

    private static void addLists(List<Question> asked, int mixes, int ballots) {
        for (int list = -1; list <= mixes + 1; list++) {
            for (int place = -1; place <= ballots; place++) {
                for (int k = 0; k < 2; k++) {
                    int m = list;
                    int i = place;
                    int part = k;
                    asked.add(new Question("list(" + m + ", " + i + ", " + part + ")", x -> x.list(m, i, part)));
                }
            }
        }
    }

    private static void addShown(List<Question> asked, int ballots) {
        for (int place = -1; place <= ballots; place++) {
            for (int k = -1; k <= 2; k++) {
                int i = place;
                int part = k;
                asked.add(new Question("shadowOf(" + i + ", " + part + ")", x -> x.shadowOf(i, part)));
                asked.add(new Question("shown(" + i + ", " + part + ")", x -> x.shown(i, part)));
            }
        }
    }

    private static void addGiven(List<Question> asked, int trustees, int ballots) {
        for (int trustee = 0; trustee <= trustees + 1; trustee++) {
            for (int place = -1; place <= ballots; place++) {
                int j = trustee;
                int i = place;
                asked.add(new Question("given(" + j + ", " + i + ")", x -> x.given(j, i)));
            }
        }
    }

    private static void addBoard(List<Question> asked, int entries) {
        for (int at = -2; at <= entries; at++) {
            int i = at;
            asked.add(new Question("chain(" + i + ")", x -> x.chain(i)));
            for (int k = 0; k < 4; k++) {
                int what = k;
                asked.add(new Question("entry(" + i + ", " + what + ")", x -> x.entry(i, what)));
            }
        }
    }
}
