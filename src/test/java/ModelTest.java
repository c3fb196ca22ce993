import java.lang.reflect.Method;
import java.util.ArrayList;
import java.util.Arrays;
import java.util.HashMap;
import java.util.List;
import java.util.Map;
import java.util.Random;
import java.util.TreeMap;

/**
 * Random runs of calls, each answered by ShootingDays and by a second program that follows the document's
 * words one by one, without regard to speed. Behind each call a few things that can be looked at are compared, and
 * from time to time all of them.
 */
public final class ModelTest {
    private static final int RUNS = 2500;
    private static final int CALLS = 90;
    private static final int LOOKS_BEHIND_A_CALL = 4;
    private static final int CALLS_BETWEEN_FULL_LOOKS = 6;

    private static final TreeMap<String, Integer> seen = new TreeMap<>();

    public static void main(String[] args) {
        for (int run = 0; run < RUNS; run++) {
            String fault = new Run(run).play();
            if (fault != null) {
                System.out.println("run " + run + ": " + fault);
                System.exit(1);
            }
        }
        List<String> unseen = new ArrayList<>();
        for (String kind : WANTED) {
            if (seen.getOrDefault(kind, 0) < 10) {
                unseen.add(kind);
            }
        }
        if (!unseen.isEmpty()) {
            System.out.println("the runs are too tame, seldom or never seen: " + unseen);
            System.exit(1);
        }
        System.out.println("all answers are as due");
    }

    /** Answers that must come up often enough for the runs to tell something. */
    private static final String[] WANTED = {
        "scene -1", "scene -2", "scene -4", "scene 19", "player -1", "player -2", "player 0", "rent -1", "rent -2",
        "spot -1", "spot -2", "spot -3", "ahead -1", "ahead -2", "ahead -3", "ahead 0", "ahead 1",
        "day -2", "day -4", "day 7", "may -1", "may -3", "may 0", "may 1", "may 2",
        "put -1", "put -3", "put 0", "put 1", "put 2", "take -1", "take -3", "take 7", "tidy -1", "tidy changed",
        "trade -1", "trade -2", "trade -3", "trade changed", "better 0", "better 1", "better 2", "better 5",
        "order -3", "order changed", "rain -1", "rain both", "rain 1", "rain 16", "change -1", "change -2",
        "change -3", "change 0",
    };

    private static final class Run {
        final Random random;
        final Random lookRandom;
        final Used used = new Used();
        final Model model = new Model();
        final List<Answer> done = new ArrayList<>();
        /** Runs differ in how wide their numbers are, so that both free and tight plans come up. */
        final int longest;
        final int widest;
        final int lightOdds;
        final int mostDays;

        Run(int number) {
            random = new Random(number);
            lookRandom = new Random(number);
            longest = new int[] {40, 120, 200, 300}[random.nextInt(4)];
            widest = new int[] {0, 10, 60, 120}[random.nextInt(4)];
            lightOdds = random.nextInt(4);
            mostDays = 1 + random.nextInt(9);
        }

        String play() {
            for (int i = 0; i < CALLS; i++) {
                String fault = i < 30 ? build() : call();
                if (fault != null) {
                    return fault;
                }
            }
            return null;
        }

        int pick(int from, int to) {
            return from + random.nextInt(to - from + 1);
        }

        /** Mostly a number of the range, sometimes one of its edges, seldom one outside. */
        int number(int from, int to) {
            int kind = random.nextInt(60);
            if (kind == 0) {
                return from - 1;
            }
            if (kind == 1) {
                return to + 1;
            }
            if (kind == 2) {
                return random.nextBoolean() ? Integer.MIN_VALUE : Integer.MAX_VALUE;
            }
            if (kind < 6) {
                return kind % 2 == 0 ? from : to;
            }
            return pick(from, to);
        }

        int aScene() {
            return number(0, Math.max(0, model.minutes.size() - 1));
        }

        int aDay() {
            return number(0, Math.max(0, model.rows.size() - 1));
        }

        String build() {
            int kind = random.nextInt(30);
            if (kind < 14) {
                return addScene();
            }
            if (kind < 18) {
                return model.rows.size() < mostDays ? addDay() : putOne();
            }
            if (kind < 20) {
                return player();
            }
            if (kind < 22) {
                return rent();
            }
            if (kind < 24) {
                return spot();
            }
            return kind < 26 ? ahead() : putOne();
        }

        String addScene() {
            int minutes = random.nextInt(8) == 0 ? number(5, 300) : number(5, longest);
            int place = number(0, 7);
            int light = random.nextInt(4) < lightOdds ? number(1, 2) : number(0, 2);
            int out = number(0, 1);
            int players = random.nextInt(3) == 0 ? number(0, 255) : 1 << pick(0, 7) | 1 << pick(0, 7);
            return check("scene", minutes, place, light, out, players);
        }

        String addDay() {
            int most = random.nextInt(3) == 0 ? number(60, 900) : number(400, 900);
            int sun = random.nextInt(3) == 0 ? number(0, 900) : number(300, 900);
            return check("day", most, sun);
        }

        String player() {
            int p = number(0, 7);
            int pay = number(0, 1000);
            int gap = random.nextBoolean() ? number(0, 3) : number(0, 10);
            return check("player", p, pay, gap);
        }

        String rent() {
            return check("rent", number(0, 7), number(0, 1000));
        }

        String spot() {
            int place = number(0, 7);
            int m = random.nextInt(6) == 0 ? number(0, 120) : number(0, widest);
            return check("spot", place, m);
        }

        String ahead() {
            return check("ahead", aScene(), aScene());
        }

        String putOne() {
            return check("put", aScene(), aDay());
        }

        String call() {
            int kind = random.nextInt(100);
            if (kind < 35) {
                return putOne();
            }
            if (kind < 55) {
                return planning(kind - 35);
            }
            if (kind < 70) {
                return kind < 64 ? check("take", aScene()) : check("may", aScene(), aDay());
            }
            switch (kind / 3) {
                case 23: return addScene();
                case 24: return addDay();
                case 25: return player();
                case 26: return rent();
                case 27: return spot();
                case 28: return spot();
                case 29: return ahead();
                case 30: return ahead();
                case 31: return change();
                case 32: return change();
                default: return build();
            }
        }

        String change() {
            int day = aDay();
            int most = random.nextInt(3) == 0 ? number(60, 900) : number(300, 900);
            int sun = random.nextInt(3) == 0 ? number(0, 900) : number(200, 900);
            return check("change", day, most, sun);
        }

        String planning(int kind) {
            int a = aDay();
            int b = aDay();
            if (kind < 4) {
                return check("tidy", a);
            }
            if (kind < 9) {
                return check("trade", a, b);
            }
            if (kind < 12) {
                return check("better");
            }
            return kind < 15 ? check("order") : check("rain", a);
        }

        String check(String name, Integer... arguments) {
            String before = model.rows.toString();
            Call call = new Call(name, arguments);
            int due = call.on(model);
            note(name, due, !before.equals(model.rows.toString()));
            done.add(new Answer(call, due));
            String fault = used.faultOf(call, due);
            List<Call> looks = looks();
            for (int i = 0; i < LOOKS_BEHIND_A_CALL && fault == null; i++) {
                Call look = looks.get(lookRandom.nextInt(looks.size()));
                fault = used.faultOf(look, look.on(model));
            }
            if (fault == null && done.size() % CALLS_BETWEEN_FULL_LOOKS == 0) {
                fault = lookAtAll(looks);
            }
            return fault == null ? null : done + "\n" + fault;
        }

        void note(String name, int due, boolean changed) {
            seen.merge(name + " " + due, 1, Integer::sum);
            if (changed) {
                seen.merge(name + " changed", 1, Integer::sum);
            }
            if (name.equals("rain") && due > 16 && due % 16 > 0) {
                seen.merge("rain both", 1, Integer::sum);
            }
        }

        /** Looks at everything, by as many new objects with the same calls behind them as it takes. */
        String lookAtAll(List<Call> looks) {
            if (!model.keeps(model.rows)) {
                return "the plan does not keep";
            }
            if (model.below() > model.cost(0)) {
                return "below() is above the cost";
            }
            Used fresh = null;
            for (Call look : looks) {
                if (fresh == null || fresh.calls == Used.MOST_CALLS) {
                    fresh = new Used();
                    for (Answer answer : done) {
                        String fault = fresh.faultOf(answer.call, answer.due);
                        if (fault != null) {
                            return "without the looks between " + fault;
                        }
                    }
                }
                String fault = fresh.faultOf(look, look.on(model));
                if (fault != null) {
                    return fault;
                }
            }
            return null;
        }

        List<Call> looks() {
            List<Call> looks = new ArrayList<>();
            addLooks(looks, "about", model.minutes.size(), 8);
            addLooks(looks, "of", model.rows.size(), 6);
            addLooks(looks, "row", model.rows.size(), 5);
            addLooks(looks, "held", 8, 4);
            for (int what = -1; what <= 4; what++) {
                looks.add(new Call("cost", what));
                looks.add(new Call("count", what));
            }
            looks.add(new Call("below"));
            return looks;
        }

        /** Of each there is, and of the first ones outside. */
        void addLooks(List<Call> looks, String name, int firsts, int seconds) {
            for (int first = -1; first <= firsts; first++) {
                for (int second = -1; second <= seconds; second++) {
                    looks.add(new Call(name, first, second));
                }
            }
        }
    }

    private record Answer(Call call, int due) {
        @Override
        public String toString() {
            return call + " = " + due;
        }
    }

    private record Call(String name, Integer... arguments) {
        private static final Map<Class<?>, Map<String, Method>> METHODS =
            Map.of(ShootingDays.class, methodsOf(ShootingDays.class), Model.class, methodsOf(Model.class));

        private static Map<String, Method> methodsOf(Class<?> type) {
            Map<String, Method> methods = new HashMap<>();
            for (Method method : type.getDeclaredMethods()) {
                methods.put(method.getName(), method);
            }
            return methods;
        }

        /** Makes the call on a ShootingDays or on a Model: the model's methods have the names of the face. */
        int on(Object film) {
            try {
                return (int) METHODS.get(film.getClass()).get(name).invoke(film, (Object[]) arguments);
            } catch (ReflectiveOperationException e) {
                throw new IllegalStateException(this + " has thrown " + e.getCause());
            }
        }

        @Override
        public String toString() {
            return name + Arrays.toString(arguments).replace('[', '(').replace(']', ')');
        }
    }

    /** An object in use, which the document promises something of for 512 calls. */
    private static final class Used {
        static final int MOST_CALLS = 512;

        private final ShootingDays object = new ShootingDays();
        int calls;

        /** Makes the call; null if it answers what is due. */
        String faultOf(Call call, int due) {
            calls++;
            if (calls > MOST_CALLS) {
                throw new IllegalStateException("a run uses one object for more than " + MOST_CALLS + " calls");
            }
            int got = call.on(object);
            return got == due ? null : call + " answered " + got + ", due is " + due;
        }
    }

    /** The document's words, in lists. */
    private static final class Model {
        static final int NONE = -1;
        static final int BAD = -2;
        static final int STATE = -3;
        static final int FULL = -4;

        List<Integer> minutes = new ArrayList<>();
        List<Integer> place = new ArrayList<>();
        List<Integer> light = new ArrayList<>();
        List<Integer> out = new ArrayList<>();
        List<Integer> players = new ArrayList<>();
        boolean[][] ahead = new boolean[20][20];
        int[] pay = new int[8];
        int[] gap = new int[8];
        int[] rent = new int[8];
        int[] spot = new int[8];
        List<Integer> most = new ArrayList<>();
        List<Integer> sun = new ArrayList<>();
        List<List<Integer>> rows = new ArrayList<>();

        boolean outside(int n, int from, int to) {
            return n < from || n > to;
        }

        boolean noScene(int s) {
            return outside(s, 0, minutes.size() - 1);
        }

        boolean noDay(int d) {
            return outside(d, 0, rows.size() - 1);
        }

        int scene(int m, int pl, int li, int ou, int ps) {
            if (outside(m, 5, 300) || outside(li, 0, 2) || outside(ou, 0, 1) || outside(ps, 0, 255)) {
                return BAD;
            }
            if (outside(pl, 0, 7)) {
                return NONE;
            }
            if (minutes.size() == 20) {
                return FULL;
            }
            minutes.add(m);
            place.add(pl);
            light.add(li);
            out.add(ou);
            players.add(ps);
            return minutes.size() - 1;
        }

        int player(int p, int itsPay, int itsGap) {
            if (outside(p, 0, 7)) {
                return NONE;
            }
            if (outside(itsPay, 0, 1000) || outside(itsGap, 0, 10)) {
                return BAD;
            }
            pay[p] = itsPay;
            gap[p] = itsGap;
            return 0;
        }

        int rent(int pl, int r) {
            if (outside(pl, 0, 7)) {
                return NONE;
            }
            if (outside(r, 0, 1000)) {
                return BAD;
            }
            int was = rent[pl];
            rent[pl] = r;
            return was;
        }

        int spot(int pl, int m) {
            if (outside(pl, 0, 7)) {
                return NONE;
            }
            if (outside(m, 0, 120)) {
                return BAD;
            }
            int was = spot[pl];
            spot[pl] = m;
            if (!keeps(rows)) {
                spot[pl] = was;
                return STATE;
            }
            return was;
        }

        boolean mustBeAhead(int a, int b) {
            if (ahead[a][b]) {
                return true;
            }
            for (int s = 0; s < minutes.size(); s++) {
                if (ahead[a][s] && mustBeAhead(s, b)) {
                    return true;
                }
            }
            return false;
        }

        int ahead(int a, int b) {
            if (noScene(a) || noScene(b)) {
                return NONE;
            }
            if (a == b || mustBeAhead(b, a)) {
                return BAD;
            }
            if (ahead[a][b]) {
                return 0;
            }
            ahead[a][b] = true;
            if (!keeps(rows)) {
                ahead[a][b] = false;
                return STATE;
            }
            return 1;
        }

        int day(int itsMost, int itsSun) {
            if (outside(itsMost, 60, 900) || outside(itsSun, 0, 900)) {
                return BAD;
            }
            if (rows.size() == 8) {
                return FULL;
            }
            most.add(itsMost);
            sun.add(itsSun);
            rows.add(new ArrayList<>());
            return rows.size() - 1;
        }

        int about(int s, int what) {
            if (noScene(s) || outside(what, 0, 7)) {
                return NONE;
            }
            if (what < 5) {
                return List.of(minutes, place, light, out, players).get(what).get(s);
            }
            int day = dayOf(rows, s);
            if (what == 5) {
                return day;
            }
            if (what == 6) {
                return day == NONE ? NONE : rows.get(day).indexOf(s);
            }
            int bits = 0;
            for (int a = 0; a < 20; a++) {
                bits += ahead[a][s] ? 1 << a : 0;
            }
            return bits;
        }

        int row(int d, int i) {
            return noDay(d) || outside(i, 0, rows.get(d).size() - 1) ? NONE : rows.get(d).get(i);
        }

        int of(int d, int what) {
            if (noDay(d)) {
                return NONE;
            }
            List<Integer> row = rows.get(d);
            switch (what) {
                case 0: return row.size();
                case 1: return minutesOf(row);
                case 2: return overOf(row);
                case 3: return row.stream().map(players::get).reduce(0, (a, b) -> a | b);
                case 4: return row.stream().filter(s -> light.get(s) == 1).mapToInt(minutes::get).sum();
                case 5: return row.stream().anyMatch(s -> light.get(s) == 2) ? 1 : 0;
                default: return NONE;
            }
        }

        int held(int p, int what) {
            if (outside(p, 0, 7) || outside(what, 0, 3)) {
                return NONE;
            }
            List<Integer> days = daysOf(rows, p);
            switch (what) {
                case 0: return days.isEmpty() ? NONE : days.get(0);
                case 1: return days.isEmpty() ? NONE : days.get(days.size() - 1);
                case 2: return days.size();
                default: return paid(rows, p);
            }
        }

        int cost(int what) {
            int[] parts = costs(rows);
            return outside(what, 0, 3) ? NONE : parts[what];
        }

        int below() {
            if (rows.isEmpty()) {
                return 0;
            }
            int greatest = most.stream().mapToInt(Integer::intValue).max().getAsInt();
            int sum = 0;
            for (int p = 0; p < 8; p++) {
                int its = 0;
                for (List<Integer> row : rows) {
                    for (int s : row) {
                        its += (players.get(s) >> p & 1) * minutes.get(s);
                    }
                }
                int days = 0;
                while (days * greatest < its) {
                    days++;
                }
                sum += days * pay[p];
            }
            for (int pl = 0; pl < 8; pl++) {
                boolean used = false;
                for (List<Integer> row : rows) {
                    for (int s : row) {
                        used |= place.get(s) == pl;
                    }
                }
                sum += used ? rent[pl] : 0;
            }
            return sum;
        }

        int may(int s, int d) {
            if (noScene(s) || noDay(d)) {
                return NONE;
            }
            if (dayOf(rows, s) != NONE) {
                return STATE;
            }
            if (rows.get(d).size() == 5) {
                return 2;
            }
            return withPut(rows, s, d) == null ? 1 : 0;
        }

        int put(int s, int d) {
            int answer = may(s, d);
            if (answer == 0) {
                rows = withPut(rows, s, d);
            }
            return answer;
        }

        int take(int s) {
            if (noScene(s)) {
                return NONE;
            }
            int day = dayOf(rows, s);
            if (day == NONE) {
                return STATE;
            }
            rows = without(rows, s);
            return day;
        }

        int tidy(int d) {
            if (noDay(d)) {
                return NONE;
            }
            rows = arranged(rows, d, rows.get(d));
            return minutesOf(rows.get(d));
        }

        int trade(int a, int b) {
            if (noDay(a) || noDay(b)) {
                return NONE;
            }
            if (a == b) {
                return BAD;
            }
            List<List<Integer>> then = traded(rows, a, b);
            if (!keeps(then)) {
                return STATE;
            }
            rows = then;
            return cost(0);
        }

        int better() {
            for (int times = 0; times < 20; times++) {
                List<List<Integer>> then = firstGood();
                if (then == null) {
                    return times;
                }
                rows = then;
            }
            return 20;
        }

        List<List<Integer>> firstGood() {
            for (int s = 0; s < minutes.size(); s++) {
                int from = dayOf(rows, s);
                for (int d = 0; d < rows.size(); d++) {
                    if (from == NONE || from == d || rows.get(d).size() == 5) {
                        continue;
                    }
                    List<List<Integer>> then = withPut(without(rows, s), s, d);
                    if (then != null && costs(then)[0] < costs(rows)[0]) {
                        return then;
                    }
                }
            }
            for (int a = 0; a < rows.size(); a++) {
                for (int b = a + 1; b < rows.size(); b++) {
                    List<List<Integer>> then = traded(rows, a, b);
                    if (keeps(then) && costs(then)[0] < costs(rows)[0]) {
                        return then;
                    }
                }
            }
            return null;
        }

        int order() {
            if (rows.size() > 6 || rows.isEmpty()) {
                return STATE;
            }
            List<Integer> days = new ArrayList<>();
            for (int d = 0; d < rows.size(); d++) {
                days.add(d);
            }
            List<Integer> best = null;
            List<List<Integer>> bestRows = null;
            for (List<Integer> way : orders(days)) {
                List<List<Integer>> then = new ArrayList<>();
                for (int from : way) {
                    then.add(rows.get(from));
                }
                if (!keeps(then)) {
                    continue;
                }
                int less = best == null ? -1 : costs(then)[0] - costs(bestRows)[0];
                if (less < 0 || less == 0 && isBefore(way, best)) {
                    best = way;
                    bestRows = then;
                }
            }
            rows = bestRows;
            return cost(0);
        }

        int rain(int d) {
            if (noDay(d)) {
                return NONE;
            }
            List<Integer> taken = new ArrayList<>();
            for (int s : rows.get(d)) {
                if (out.get(s) == 1) {
                    taken.add(s);
                }
            }
            for (int s : taken) {
                take(s);
            }
            int joined = 0;
            for (int s = 0; s < minutes.size(); s++) {
                if (dayOf(rows, s) == NONE && out.get(s) == 0 && !taken.contains(s) && put(s, d) == 0) {
                    joined++;
                }
            }
            return 16 * taken.size() + joined;
        }

        int change(int d, int itsMost, int itsSun) {
            if (noDay(d)) {
                return NONE;
            }
            if (outside(itsMost, 60, 900) || outside(itsSun, 0, 900)) {
                return BAD;
            }
            int mostWas = most.set(d, itsMost);
            int sunWas = sun.set(d, itsSun);
            if (!keeps(rows)) {
                most.set(d, mostWas);
                sun.set(d, sunWas);
                return STATE;
            }
            return 0;
        }

        int count(int what) {
            switch (what) {
                case 0: return minutes.size();
                case 1: return rows.size();
                case 2: return rows.stream().mapToInt(List::size).sum();
                case 3:
                    int found = 0;
                    for (boolean[] others : ahead) {
                        boolean any = false;
                        for (boolean other : others) {
                            any |= other;
                        }
                        found += any ? 1 : 0;
                    }
                    return found;
                default: return NONE;
            }
        }

        int dayOf(List<List<Integer>> plan, int s) {
            for (int d = 0; d < plan.size(); d++) {
                if (plan.get(d).contains(s)) {
                    return d;
                }
            }
            return NONE;
        }

        int minutesOf(List<Integer> row) {
            int sum = 0;
            for (int i = 0; i < row.size(); i++) {
                sum += minutes.get(row.get(i));
                if (i + 1 < row.size()) {
                    sum += Math.abs(spot[place.get(row.get(i))] - spot[place.get(row.get(i + 1))]);
                }
            }
            return sum;
        }

        int overOf(List<Integer> row) {
            int halves = 0;
            for (int left = minutesOf(row) - 480; left > 0; left -= 30) {
                halves++;
            }
            return halves;
        }

        boolean keeps(List<List<Integer>> plan) {
            for (int d = 0; d < plan.size(); d++) {
                int lit = 0;
                boolean night = false;
                for (int s : plan.get(d)) {
                    lit += light.get(s) == 1 ? minutes.get(s) : 0;
                    night |= light.get(s) == 2;
                }
                if (minutesOf(plan.get(d)) > most.get(d) || lit > sun.get(d)) {
                    return false;
                }
                if (night && d + 1 < plan.size()) {
                    for (int s : plan.get(d + 1)) {
                        if (light.get(s) == 1) {
                            return false;
                        }
                    }
                }
            }
            for (int a = 0; a < minutes.size(); a++) {
                for (int b = 0; b < minutes.size(); b++) {
                    int dayOfA = dayOf(plan, a);
                    int dayOfB = dayOf(plan, b);
                    if (!ahead[a][b] || dayOfA == NONE || dayOfB == NONE || dayOfA < dayOfB) {
                        continue;
                    }
                    if (dayOfA > dayOfB || plan.get(dayOfA).indexOf(a) > plan.get(dayOfA).indexOf(b)) {
                        return false;
                    }
                }
            }
            return true;
        }

        List<Integer> daysOf(List<List<Integer>> plan, int p) {
            List<Integer> days = new ArrayList<>();
            for (int d = 0; d < plan.size(); d++) {
                for (int s : plan.get(d)) {
                    if ((players.get(s) >> p & 1) == 1 && !days.contains(d)) {
                        days.add(d);
                    }
                }
            }
            return days;
        }

        int paid(List<List<Integer>> plan, int p) {
            List<Integer> days = daysOf(plan, p);
            int sum = days.size();
            for (int i = 0; i + 1 < days.size(); i++) {
                int between = days.get(i + 1) - days.get(i) - 1;
                if (gap[p] == 0 || between < gap[p]) {
                    sum += between;
                }
            }
            return sum;
        }

        int[] costs(List<List<Integer>> plan) {
            int wages = 0;
            int rents = 0;
            int over = 0;
            for (int p = 0; p < 8; p++) {
                wages += pay[p] * paid(plan, p);
            }
            for (List<Integer> row : plan) {
                for (int pl = 0; pl < 8; pl++) {
                    int here = pl;
                    rents += row.stream().anyMatch(s -> place.get(s) == here) ? rent[pl] : 0;
                }
                over += 50 * overOf(row);
            }
            return new int[] {wages + rents + over, wages, rents, over};
        }

        List<List<Integer>> copy(List<List<Integer>> plan) {
            List<List<Integer>> same = new ArrayList<>();
            for (List<Integer> row : plan) {
                same.add(new ArrayList<>(row));
            }
            return same;
        }

        List<List<Integer>> without(List<List<Integer>> plan, int s) {
            List<List<Integer>> then = copy(plan);
            for (List<Integer> row : then) {
                row.remove((Integer) s);
            }
            return then;
        }

        List<List<Integer>> traded(List<List<Integer>> plan, int a, int b) {
            List<List<Integer>> then = copy(plan);
            then.set(a, plan.get(b));
            then.set(b, plan.get(a));
            return then;
        }

        List<List<Integer>> withPut(List<List<Integer>> plan, int s, int d) {
            List<Integer> all = new ArrayList<>(plan.get(d));
            all.add(s);
            return arranged(plan, d, all);
        }

        List<List<Integer>> arranged(List<List<Integer>> plan, int d, List<Integer> all) {
            List<Integer> best = null;
            for (List<Integer> order : orders(all)) {
                boolean wins = best == null || minutesOf(order) < minutesOf(best)
                    || minutesOf(order) == minutesOf(best) && isBefore(order, best);
                if (!wins) {
                    continue;
                }
                List<List<Integer>> then = copy(plan);
                then.set(d, order);
                if (keeps(then)) {
                    best = order;
                }
            }
            if (best == null) {
                return null;
            }
            List<List<Integer>> then = copy(plan);
            then.set(d, best);
            return then;
        }

        boolean isBefore(List<Integer> one, List<Integer> other) {
            for (int i = 0; i < one.size(); i++) {
                if (!one.get(i).equals(other.get(i))) {
                    return one.get(i) < other.get(i);
                }
            }
            return false;
        }

        List<List<Integer>> orders(List<Integer> all) {
            List<List<Integer>> found = new ArrayList<>();
            if (all.isEmpty()) {
                found.add(new ArrayList<>());
            }
            for (int i = 0; i < all.size(); i++) {
                List<Integer> rest = new ArrayList<>(all);
                int last = rest.remove(i);
                for (List<Integer> order : orders(rest)) {
                    order.add(last);
                    found.add(order);
                }
            }
            return found;
        }
    }
}
