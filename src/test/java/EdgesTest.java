import java.io.IOException;
import java.lang.reflect.InvocationTargetException;
import java.lang.reflect.Method;
import java.nio.file.Files;
import java.nio.file.Path;
import java.util.ArrayList;
import java.util.Arrays;
import java.util.HashMap;
import java.util.List;
import java.util.Map;
import java.util.Set;
import java.util.regex.Matcher;
import java.util.regex.Pattern;
import java.util.stream.Stream;

/**
 * Runs the tests under src/test/edges: a file for each promise, and in it a test for each sentence of the document
 * that names an edge. Behind each call that must change nothing the object is compared with one that never had it.
 * README.md tells how such a file is written.
 */
public final class EdgesTest {
    private static final Path FOLDER = Path.of("src/test/edges");
    private static final int PROMISES = 23;

    public static void main(String[] args) throws IOException {
        List<String> faults = new ArrayList<>();
        Script script = new Script();
        script.read(FOLDER.resolve("given.txt"));
        int passed = 0;
        for (int promise = 1; promise <= PROMISES; promise++) {
            List<Trial> trials = script.read(fileOf(promise));
            if (trials.isEmpty()) {
                faults.add("promise " + promise + " has no tests");
            }
            for (Trial trial : trials) {
                String fault = faultOf(trial);
                if (fault == null) {
                    passed++;
                } else {
                    faults.add(trial.title + ": " + fault);
                }
            }
        }
        faults.forEach(System.out::println);
        System.out.println(passed + " edges hold, " + faults.size() + " do not");
        if (!faults.isEmpty()) {
            System.exit(1);
        }
    }

    private static String faultOf(Trial trial) {
        try {
            return trial.play();
        } catch (IllegalStateException e) {
            return e.getMessage();
        }
    }

    private static Path fileOf(int promise) throws IOException {
        String start = String.format("promise-%02d-", promise);
        try (Stream<Path> files = Files.list(FOLDER)) {
            return files.filter(file -> file.getFileName().toString().startsWith(start)).findFirst()
                .orElseThrow(() -> new IOException("no file " + start + "*"));
        }
    }

    /** One call and the answer that is due. */
    private record Step(String name, List<Integer> arguments, int due) {
        private static final Set<String> LOOKING =
            Set.of("about", "row", "of", "held", "cost", "below", "may", "count");

        static Step of(String name, int due, Integer... arguments) {
            return new Step(name, Arrays.asList(arguments), due);
        }

        boolean changesNothing() {
            if (LOOKING.contains(name) || due < 0) {
                return true;
            }
            switch (name) {
                case "put": return due != 0;
                case "ahead":
                case "better":
                case "rain": return due == 0;
                default: return false;
            }
        }

        @Override
        public String toString() {
            return name + arguments.toString().replace('[', '(').replace(']', ')');
        }
    }

    /** An object in use, which the document promises something of for 512 calls. */
    private static final class Used {
        private static final int CALLS = 512;
        private static final Map<String, Method> FACE = new HashMap<>();

        static {
            for (Method method : ShootingDays.class.getMethods()) {
                if (method.getDeclaringClass() == ShootingDays.class) {
                    FACE.put(method.getName(), method);
                }
            }
        }

        private final ShootingDays object = new ShootingDays();
        private int calls;

        int call(Step step) {
            calls++;
            if (calls > CALLS) {
                throw new IllegalStateException("a test uses one object for more than " + CALLS + " calls");
            }
            try {
                return (int) FACE.get(step.name).invoke(object, step.arguments.toArray());
            } catch (InvocationTargetException | IllegalAccessException e) {
                throw new IllegalStateException(step + " has thrown " + e.getCause());
            }
        }

        List<Integer> callAll(List<Step> steps) {
            List<Integer> answers = new ArrayList<>();
            for (Step step : steps) {
                answers.add(call(step));
            }
            return answers;
        }
    }

    /** A test: calls on a new object, one behind the other. */
    private static final class Trial {
        final String title;
        final List<Step> steps = new ArrayList<>();

        Trial(String title) {
            this.title = title;
        }

        String play() {
            if (steps.isEmpty()) {
                return "it has no calls";
            }
            Used used = new Used();
            List<Step> changes = new ArrayList<>();
            for (Step step : steps) {
                int answer = used.call(step);
                if (answer != step.due) {
                    return step + " answered " + answer + ", due is " + step.due;
                }
                if (!step.changesNothing()) {
                    changes.add(step);
                    continue;
                }
                String seen = Looks.difference(changes, step);
                if (seen != null) {
                    return step + " answered " + answer + " and changed " + seen;
                }
            }
            return null;
        }
    }

    /** Calls that show all there is of an object; in several parts, as one object has calls for one of them. */
    private static final class Looks {
        private static final List<List<Step>> PARTS =
            List.of(scenes(), plan(), room(), places(), players(), planning());

        /** What a call behind these changes shows otherwise than without it; null: nothing. */
        static String difference(List<Step> changes, Step call) {
            for (List<Step> part : PARTS) {
                List<Integer> without = shown(changes, null, part);
                List<Integer> with = shown(changes, call, part);
                for (int i = 0; i < part.size(); i++) {
                    if (!with.get(i).equals(without.get(i))) {
                        return part.get(i) + " from " + without.get(i) + " to " + with.get(i);
                    }
                }
            }
            return null;
        }

        private static List<Integer> shown(List<Step> changes, Step call, List<Step> part) {
            Used used = new Used();
            used.callAll(changes);
            if (call != null) {
                used.call(call);
            }
            return used.callAll(part);
        }

        private static void each(List<Step> steps, String name, int firsts, int seconds) {
            for (int first = 0; first < firsts; first++) {
                for (int second = 0; second < seconds; second++) {
                    steps.add(Step.of(name, 0, first, second));
                }
            }
        }

        private static void each(List<Step> steps, String name, int firsts) {
            for (int first = 0; first < firsts; first++) {
                steps.add(Step.of(name, 0, first));
            }
        }

        private static List<Step> scenes() {
            List<Step> steps = new ArrayList<>();
            each(steps, "about", 20, 8);
            return steps;
        }

        private static List<Step> plan() {
            List<Step> steps = new ArrayList<>();
            each(steps, "row", 8, 5);
            each(steps, "of", 8, 6);
            each(steps, "held", 8, 4);
            each(steps, "cost", 4);
            each(steps, "count", 4);
            steps.add(Step.of("below", 0));
            return steps;
        }

        /** MOST and SUN are shown by what the days may still take. */
        private static List<Step> room() {
            List<Step> steps = new ArrayList<>();
            each(steps, "may", 20, 8);
            return steps;
        }

        /** A new RENT or SPOT answers what it was; no spot is refused once all scenes are out of their rows. */
        private static List<Step> places() {
            List<Step> steps = new ArrayList<>();
            each(steps, "take", 20);
            each(steps, "rent", 8, 1);
            each(steps, "spot", 8, 1);
            return steps;
        }

        /** Each PAY by itself: what is left to pay as one player after the other gets none. */
        private static List<Step> players() {
            List<Step> steps = new ArrayList<>();
            for (int player = 0; player < 8; player++) {
                steps.add(Step.of("player", 0, player, 0, 0));
                steps.add(Step.of("cost", 0, 1));
            }
            return steps;
        }

        /** Whatever is measured and kept inside of the object, the plan goes on as if nothing had been. */
        private static List<Step> planning() {
            List<Step> steps = new ArrayList<>();
            for (int day = 0; day < 7; day++) {
                steps.add(Step.of("trade", 0, day, day + 1));
            }
            each(steps, "tidy", 8);
            steps.add(Step.of("better", 0));
            steps.add(Step.of("order", 0));
            each(steps, "rain", 8);
            return steps;
        }
    }

    /** Reads the files. */
    private static final class Script {
        private static final Pattern CALL = Pattern.compile("(\\w+)\\((.*)\\) = (.+)");
        private static final Pattern ROW = Pattern.compile("row (\\d) is (.+)");
        private static final Pattern ARGUMENT = Pattern.compile("\\{[^}]*\\}|[^,\\s]+");
        /** The document's own numbers, whatever the class has. */
        private static final Map<String, Integer> NAMES = Map.of("NONE", -1, "BAD", -2, "STATE", -3, "FULL", -4,
            "MIN", Integer.MIN_VALUE, "MAX", Integer.MAX_VALUE);

        private final Map<String, List<Step>> givens = new HashMap<>();

        List<Trial> read(Path file) throws IOException {
            List<Trial> trials = new ArrayList<>();
            String promise = null;
            for (String line : Files.readAllLines(file)) {
                if (promise == null) {
                    promise = line;
                } else if (line.startsWith("== ")) {
                    Trial trial = new Trial(promise + ", " + line.substring(3));
                    trials.add(trial);
                    givens.put(line.substring(3), trial.steps);
                } else if (!line.isBlank() && !line.startsWith("#")) {
                    trials.get(trials.size() - 1).steps.addAll(stepsOf(line.trim()));
                }
            }
            return trials;
        }

        private List<Step> stepsOf(String line) throws IOException {
            if (line.startsWith("given ") && givens.containsKey(line.substring(6))) {
                return givens.get(line.substring(6));
            }
            Matcher row = ROW.matcher(line);
            if (row.matches()) {
                return rowSteps(Integer.parseInt(row.group(1)), row.group(2));
            }
            Matcher call = CALL.matcher(line);
            if (call.matches()) {
                return callSteps(call.group(1), argumentsOf(call.group(2)), valuesOf(call.group(3)), line);
            }
            throw new IOException("not a line of a test: " + line);
        }

        private static List<Step> rowSteps(int day, String text) {
            List<Integer> scenes = text.equals("empty") ? List.of() : valuesOf(text);
            List<Step> steps = new ArrayList<>();
            steps.add(Step.of("of", scenes.size(), day, 0));
            for (int i = 0; i < scenes.size(); i++) {
                steps.add(Step.of("row", scenes.get(i), day, i));
            }
            steps.add(Step.of("row", NAMES.get("NONE"), day, scenes.size()));
            return steps;
        }

        private static List<Step> callSteps(String name, List<List<Integer>> arguments, List<Integer> due, String line)
            throws IOException {
            int calls = Math.max(arguments.size(), due.size());
            if (arguments.size() != 1 && due.size() != 1 && arguments.size() != due.size()) {
                throw new IOException("not as many answers as calls: " + line);
            }
            List<Step> steps = new ArrayList<>();
            for (int i = 0; i < calls; i++) {
                steps.add(new Step(name, arguments.get(i % arguments.size()), due.get(i % due.size())));
            }
            return steps;
        }

        /** All calls that a line's arguments stand for: one for each choice out of their braces. */
        private static List<List<Integer>> argumentsOf(String text) {
            List<List<Integer>> calls = List.of(List.of());
            Matcher argument = ARGUMENT.matcher(text);
            while (argument.find()) {
                List<List<Integer>> longer = new ArrayList<>();
                for (List<Integer> call : calls) {
                    for (int value : valuesOf(argument.group())) {
                        List<Integer> with = new ArrayList<>(call);
                        with.add(value);
                        longer.add(with);
                    }
                }
                calls = longer;
            }
            return calls;
        }

        private static List<Integer> valuesOf(String text) {
            List<Integer> values = new ArrayList<>();
            for (String word : text.replaceAll("[{},]", " ").trim().split("\\s+")) {
                String[] ends = word.split("\\.\\.");
                int last = valueOf(ends[ends.length - 1]);
                values.add(valueOf(ends[0]));
                while (values.get(values.size() - 1) < last) {
                    values.add(values.get(values.size() - 1) + 1);
                }
            }
            return values;
        }

        private static int valueOf(String word) {
            return NAMES.containsKey(word) ? NAMES.get(word) : Integer.parseInt(word);
        }
    }
}
