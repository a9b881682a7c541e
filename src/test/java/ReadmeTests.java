import java.io.IOException;
import java.lang.reflect.Method;
import java.lang.reflect.Modifier;
import java.net.URL;
import java.net.URLClassLoader;
import java.nio.file.Files;
import java.nio.file.Path;
import java.util.ArrayList;
import java.util.Arrays;
import java.util.List;
import java.util.Map;
import java.util.Set;
import java.util.TreeMap;
import java.util.TreeSet;
import java.util.function.Predicate;
import java.util.function.Supplier;
import java.util.regex.Matcher;
import java.util.regex.Pattern;
import java.util.stream.Collectors;
import java.util.stream.Stream;
import javax.tools.ToolProvider;

/** What README.md says of the class and of its tests is so. */
public final class ReadmeTests {
    private static final int NONE = MixElection.NONE;

    private record Line(String code, String asked, String told) {
    }

    public static void main(String[] args) throws IOException, ReflectiveOperationException {
        String readme = Files.readString(Path.of("README.md"));
        eachCallOfTheExampleAnswersAsToldBehindIt(exampleIn(readme));
        eachCallOfTheFaceStandsInTheTable(callsByStage(readme));
        eachStageTakesItsCalls(callsByStage(readme));
        eachStageRefusesTheCallsOfOthers(callsByStage(readme));
        aMixOrShadowLeavesTheStagingEmpty();
        noTallyTillAllIsThere();
        behindAShareThereIsNoMixOrShadow();
        aRoundCountsFromItsShadowOn();
        theLatestShadowStaysBehindAFurtherMix();
        rejectedRoundsAreThoseOfAllMixes();
        placeAndForgeAreTakenWhileACoinIsDueAndBehindAShare();
        aRefusedCloseLeavesTheStaging();
        listZeroIsNotThereAheadOfClose();
        eachTestStandsInTheTable(readme);
        Due.end("ReadmeTests");
    }

    private static List<Line> exampleIn(String readme) {
        Matcher block = Pattern.compile("(?s)```java\n(.*?)```").matcher(readme);
        Due.yes("README.md has an example", block.find());
        List<Line> lines = new ArrayList<>();
        for (String line : block.group(1).split("\n")) {
            if (!line.isBlank()) {
                lines.add(lineOf(line));
            }
        }
        return lines;
    }

    /** A call, or a variable and the call that it keeps, and behind it what is told: the answer, then words on it. */
    private static Line lineOf(String line) {
        Matcher parts = Pattern.compile("((?:int (\\w+) = )?(.*);)\\s*// (-?\\d+|true|false)(: .*)?").matcher(line);
        if (parts.matches()) {
            return new Line(parts.group(1), parts.group(2) == null ? parts.group(3) : parts.group(2), parts.group(4));
        }
        Due.yes("README.md tells an answer: " + line, line.startsWith("MixElection x = new MixElection("));
        return new Line(line, null, null);
    }

    private static void eachCallOfTheExampleAnswersAsToldBehindIt(List<Line> lines)
            throws IOException, ReflectiveOperationException {
        StringBuilder body = new StringBuilder();
        List<Line> told = new ArrayList<>();
        for (Line line : lines) {
            boolean keepsAVariable = line.asked == null || !line.code.equals(line.asked + ";");
            body.append(keepsAVariable ? line.code + "\n" : "");
            if (line.asked != null) {
                body.append("seen.add(String.valueOf(").append(line.asked).append("));\n");
                told.add(line);
            }
        }
        List<String> seen = played(body.toString());
        Due.same("README.md: calls of the example", seen.size(), told.size());
        for (int i = 0; i < seen.size(); i++) {
            Due.yes("README.md: " + told.get(i).code + " tells " + told.get(i).told + ", it answered " + seen.get(i),
                told.get(i).told.equals(seen.get(i)));
        }
    }

    private static List<String> played(String body) throws IOException, ReflectiveOperationException {
        Path folder = Files.createTempDirectory("readme");
        Path source = folder.resolve("ReadmeExample.java");
        Files.writeString(source, "import java.util.*;\n"
            + "public final class ReadmeExample implements java.util.function.Supplier<List<String>> {\n"
            + "public List<String> get() {\nList<String> seen = new ArrayList<>();\n" + body + "return seen;\n}\n}\n");
        int compiled = ToolProvider.getSystemJavaCompiler().run(null, null, null,
            "-cp", System.getProperty("java.class.path"), "-d", folder.toString(), source.toString());
        Due.same("README.md: the example compiles", compiled, 0);
        List<String> seen = compiled == 0 ? answersOf(folder) : List.of();
        for (String file : List.of("ReadmeExample.java", "ReadmeExample.class", "")) {
            Files.deleteIfExists(folder.resolve(file));
        }
        return seen;
    }

    private static List<String> answersOf(Path folder) throws IOException, ReflectiveOperationException {
        try (URLClassLoader loader = new URLClassLoader(new URL[] {folder.toUri().toURL()})) {
            Supplier<?> example = (Supplier<?>) loader.loadClass("ReadmeExample").getDeclaredConstructor().newInstance();
            List<String> seen = new ArrayList<>();
            for (Object answer : (List<?>) example.get()) {
                seen.add(answer.toString());
            }
            return seen;
        }
    }

    private static Map<String, Set<String>> callsByStage(String readme) {
        Map<String, Set<String>> calls = new TreeMap<>();
        for (String stage : List.of("SETUP", "OPEN", "CLOSED", "TOLD", "each")) {
            Matcher row = Pattern.compile("(?m)^\\| " + stage + " \\| (.*) \\|$").matcher(readme);
            Due.yes("README.md has a row of calls for " + stage, row.find());
            calls.put(stage, quotedIn(row.group(1)));
        }
        return calls;
    }

    private static Set<String> quotedIn(String text) {
        Matcher quoted = Pattern.compile("`(\\w+)`").matcher(text);
        Set<String> names = new TreeSet<>();
        while (quoted.find()) {
            names.add(quoted.group(1));
        }
        return names;
    }

    private static void eachCallOfTheFaceStandsInTheTable(Map<String, Set<String>> callsByStage) {
        Set<String> inTable = new TreeSet<>();
        callsByStage.values().forEach(inTable::addAll);
        Set<String> face = Arrays.stream(MixElection.class.getDeclaredMethods())
            .filter(method -> Modifier.isPublic(method.getModifiers()))
            .map(Method::getName).collect(Collectors.toCollection(TreeSet::new));
        Due.yes("README.md: the calls " + inTable + " are " + face, inTable.equals(face));
    }

    /** Each call that a stage can refuse, with arguments that are good wherever the stage is: whether it was taken. */
    private static Map<String, Predicate<Run>> goodCalls() {
        Map<String, Predicate<Run>> calls = new TreeMap<>();
        calls.put("secret", x -> x.secret(0, 3));
        calls.put("key", x -> x.key() != NONE);
        calls.put("voter", x -> x.voter() != NONE);
        calls.put("cast", x -> x.cast(0, 0, 1) != 0);
        calls.put("castPair", x -> x.castPair(0, 2, 3) != 0);
        calls.put("close", x -> x.close() != NONE);
        calls.put("place", x -> x.place(0, 0, 1));
        calls.put("forge", x -> x.forge(0, 2, 3));
        calls.put("mix", x -> x.mix() != NONE);
        calls.put("shadow", x -> x.shadow() != NONE);
        calls.put("coin", x -> x.coin(0) != NONE);
        calls.put("share", x -> x.share(2) != NONE);
        calls.put("tally", x -> x.tally() != NONE);
        calls.put("count", x -> x.count(0) != NONE);
        return calls;
    }

    private static Map<String, List<Run>> runsByStage() {
        Run staged = Elections.mixed(3);
        Elections.placeAll(staged, 3, 1, 2);
        return Map.of(
            "SETUP", List.of(Elections.setup(3)),
            "OPEN", List.of(Elections.open(3)),
            "CLOSED", List.of(staged, Elections.due(3), Elections.enough(3)),
            "TOLD", List.of(Elections.told(3)));
    }

    private static void eachStageTakesItsCalls(Map<String, Set<String>> callsByStage) {
        runsByStage().forEach((stage, runs) -> {
            for (String name : callsByStage.get(stage)) {
                boolean taken = runs.stream().anyMatch(run -> goodCalls().get(name).test(run.copy()));
                Due.yes("README.md: " + stage + " takes " + name, taken);
            }
        });
    }

    private static void eachStageRefusesTheCallsOfOthers(Map<String, Set<String>> callsByStage) {
        runsByStage().forEach((stage, runs) -> goodCalls().forEach((name, call) -> {
            for (Run run : runs) {
                if (!callsByStage.get(stage).contains(name)) {
                    Due.no("README.md: " + stage + " takes " + name, call.test(run.copy()));
                }
            }
        }));
    }

    private static void aMixOrShadowLeavesTheStagingEmpty() {
        Run x = Elections.staged(3);
        Due.same("README.md: a whole STAGING", x.about(15), 1);
        Due.same("README.md: a mix takes it", x.mix(), 1);
        Due.same("README.md: none is left behind a mix", x.about(15), 0);
        Elections.placeAll(x, 3, 1, 2);
        Due.same("README.md: staged anew", x.about(15), 1);
        Due.same("README.md: a SHADOW takes it", x.shadow(), 1);
        Due.same("README.md: none is left behind a SHADOW", x.about(15), 0);
        Elections.placeAll(x, 3, 1, 2);
        x.coin(0);
        x.shadow();
        Due.same("README.md: what was FORGED is not left, either", x.coin(0), 1);
    }

    private static void noTallyTillAllIsThere() {
        Due.same("README.md: a TALLY", Elections.enough(3).tally(), 3);
        Due.same("README.md: too few SHARES", Elections.shared(3).tally(), NONE);
        Run noRound = Elections.mixed(3);
        Run rejected = Elections.rejected(3);
        for (int j = 1; j <= 3; j++) {
            noRound.share(j);
            rejected.share(j);
        }
        Due.same("README.md: a mix without a round", noRound.tally(), NONE);
        Due.same("README.md: a rejected round", rejected.tally(), NONE);
    }

    private static void behindAShareThereIsNoMixOrShadow() {
        Run x = Elections.shared(3);
        Elections.placeAll(x, 3, 1, 2);
        Due.same("README.md: a mix behind a SHARE", x.mix(), NONE);
        Due.same("README.md: a SHADOW behind a SHARE", x.shadow(), NONE);
    }

    private static void aRoundCountsFromItsShadowOn() {
        Due.same("README.md: rounds ahead of the first SHADOW", Elections.mixed(3).about(11), 0);
        Due.same("README.md: rounds while a COIN is due", Elections.due(3).about(11), 1);
        Due.same("README.md: rounds behind the COIN", Elections.accepted(3).about(11), 1);
    }

    private static void theLatestShadowStaysBehindAFurtherMix() {
        Run x = Elections.accepted(3);
        int a = x.shadowOf(0, 0);
        Due.yes("README.md: a SHADOW, and what was shown", a != NONE && x.shown(0, 0) != NONE);
        Due.same("README.md: a further mix", Elections.mixOn(x, 3, 1, 5), 2);
        Due.same("README.md: the SHADOW stays", x.shadowOf(0, 0), a);
        Due.same("README.md: what was shown does not", x.shown(0, 0), NONE);
    }

    private static void rejectedRoundsAreThoseOfAllMixes() {
        Run x = Elections.rejected(3);
        Elections.mixOn(x, 3, 1, 5);
        Due.same("README.md: a round of mix 2 is accepted", Elections.roundOn(x, 3, 2, 6, 0), 1);
        Due.same("README.md: rejected rounds", x.about(12), 1);
        x.share(1);
        x.share(2);
        Due.same("README.md: a TALLY with a rejected round of mix 1", x.tally(), NONE);
    }

    private static void placeAndForgeAreTakenWhileACoinIsDueAndBehindAShare() {
        for (Run x : List.of(Elections.due(3), Elections.shared(3))) {
            Due.yes("README.md: place, in " + x, x.place(0, 0, 1));
            Due.yes("README.md: forge, in " + x, x.forge(0, 2, 3));
        }
    }

    private static void aRefusedCloseLeavesTheStaging() {
        Run x = Elections.staged(3);
        Due.same("README.md: a second close", x.close(), NONE);
        Due.same("README.md: the STAGING behind it", x.about(15), 1);
    }

    private static void listZeroIsNotThereAheadOfClose() {
        Run x = Elections.open(3);
        Due.same("README.md: LIST 0 ahead of close", x.list(0, 0, 0), NONE);
        x.close();
        Due.yes("README.md: LIST 0 behind close", x.list(0, 0, 0) != NONE);
    }

    private static void eachTestStandsInTheTable(String readme) throws IOException {
        Matcher row = Pattern.compile("(?m)^\\| `(\\w+)` \\|").matcher(readme);
        Set<String> inTable = new TreeSet<>();
        while (row.find()) {
            inTable.add(row.group(1));
        }
        try (Stream<Path> files = Files.list(Path.of("src/test/java"))) {
            Set<String> tests = files.map(file -> file.getFileName().toString())
                .filter(name -> name.endsWith("Tests.java")).map(name -> name.replace(".java", ""))
                .collect(Collectors.toCollection(TreeSet::new));
            Due.yes("README.md: the tests " + inTable + " are " + tests, inTable.equals(tests));
        }
    }
}
