/** A film's scenes put into days, what such a plan costs, and ways to make it cheaper. */
public final class ShootingDays {
    public static final int NONE = -1, BAD = -2, STATE = -3, FULL = -4;

    private static final int SCENES = 20;
    private static final int DAYS = 8;
    private static final int ROW_SCENES = 5;
    private static final int PLAYERS = 8;
    private static final int PLACES = 8;
    private static final int DAY_LIGHT = 1;
    private static final int NIGHT_LIGHT = 2;
    private static final int FREE_MINUTES = 480;
    private static final int HALF_HOUR = 30;
    private static final int HALF_HOUR_COST = 50;
    private static final int BETTERINGS = 20;
    private static final int ORDER_DAYS = 6;
    private static final int ORDERS = 720;

    private final Film film;
    private final Plan plan;
    private final Bill bill;
    private final Planner planner;

    public ShootingDays() {
        film = new Film();
        plan = new Plan(film);
        bill = new Bill(film, plan);
        planner = new Planner(film, plan, bill);
    }

    public int scene(int minutes, int place, int light, int out, int players) {
        if (!within(minutes, 5, 300) || !within(light, 0, 2) || !within(out, 0, 1) || !within(players, 0, 255)) {
            return BAD;
        }
        if (!isPlace(place)) {
            return NONE;
        }
        return film.addScene(minutes, place, light, out, players);
    }

    public int player(int p, int pay, int gap) {
        if (!isPlayer(p)) {
            return NONE;
        }
        if (!within(pay, 0, 1000) || !within(gap, 0, 10)) {
            return BAD;
        }
        film.pay[p] = pay;
        film.gap[p] = gap;
        return 0;
    }

    public int rent(int place, int r) {
        if (!isPlace(place)) {
            return NONE;
        }
        if (!within(r, 0, 1000)) {
            return BAD;
        }
        int was = film.rent[place];
        film.rent[place] = r;
        return was;
    }

    public int spot(int place, int m) {
        if (!isPlace(place)) {
            return NONE;
        }
        if (!within(m, 0, 120)) {
            return BAD;
        }
        int was = film.spot[place];
        film.spot[place] = m;
        plan.measureRows();
        if (plan.keeps()) {
            return was;
        }
        film.spot[place] = was;
        plan.measureRows();
        return STATE;
    }

    public int ahead(int a, int b) {
        if (!film.hasScene(a) || !film.hasScene(b)) {
            return NONE;
        }
        if (a == b || hasBit(film.needsByOthersToo(a), b)) {
            return BAD;
        }
        int was = film.needs[b];
        if (hasBit(was, a)) {
            return 0;
        }
        film.needs[b] = was | 1 << a;
        plan.measureRows();
        if (plan.keeps()) {
            return 1;
        }
        film.needs[b] = was;
        plan.measureRows();
        return STATE;
    }

    public int day(int most, int sun) {
        if (!isDayLength(most, sun)) {
            return BAD;
        }
        return plan.addDay(most, sun);
    }

    public int about(int scene, int what) {
        if (!film.hasScene(scene)) {
            return NONE;
        }
        switch (what) {
            case 0: return film.minutes[scene];
            case 1: return film.place[scene];
            case 2: return film.light[scene];
            case 3: return film.out[scene];
            case 4: return film.players[scene];
            case 5: return plan.dayWith(scene);
            case 6: return plan.placeInRow(scene);
            case 7: return film.needs[scene];
            default: return NONE;
        }
    }

    public int row(int day, int i) {
        if (!plan.hasDay(day)) {
            return NONE;
        }
        return plan.rows[day].sceneAt(i);
    }

    public int of(int day, int what) {
        if (!plan.hasDay(day)) {
            return NONE;
        }
        Row row = plan.rows[day];
        switch (what) {
            case 0: return row.size;
            case 1: return row.minutes;
            case 2: return row.halfHoursOver();
            case 3: return row.players;
            case 4: return row.sunMinutes;
            case 5: return row.night ? 1 : 0;
            default: return NONE;
        }
    }

    public int held(int player, int what) {
        if (!isPlayer(player)) {
            return NONE;
        }
        switch (what) {
            case 0: return plan.firstDayOf(player);
            case 1: return plan.lastDayOf(player);
            case 2: return plan.daysWith(player);
            case 3: return bill.paidDays(player);
            default: return NONE;
        }
    }

    public int cost(int what) {
        switch (what) {
            case 0: return bill.total();
            case 1: return bill.wages();
            case 2: return bill.rents();
            case 3: return bill.overtime();
            default: return NONE;
        }
    }

    public int below() {
        return bill.leastPossible();
    }

    public int may(int scene, int day) {
        int refusal = refusalToJoin(scene, day);
        return refusal != 0 ? refusal : planner.couldJoin(scene, day);
    }

    public int put(int scene, int day) {
        int refusal = refusalToJoin(scene, day);
        return refusal != 0 ? refusal : planner.join(scene, day);
    }

    public int take(int scene) {
        if (!film.hasScene(scene)) {
            return NONE;
        }
        int day = plan.dayWith(scene);
        if (day == NONE) {
            return STATE;
        }
        planner.leave(scene, day);
        return day;
    }

    public int tidy(int day) {
        if (!plan.hasDay(day)) {
            return NONE;
        }
        planner.arrangeDay(day);
        return plan.rows[day].minutes;
    }

    public int trade(int a, int b) {
        if (!plan.hasDay(a) || !plan.hasDay(b)) {
            return NONE;
        }
        if (a == b) {
            return BAD;
        }
        plan.exchange(a, b);
        if (plan.keeps()) {
            return bill.total();
        }
        plan.exchange(a, b);
        return STATE;
    }

    public int better() {
        int times = 0;
        while (times < BETTERINGS && (planner.makeFirstGoodMove() || planner.makeFirstGoodTrade())) {
            times++;
        }
        return times;
    }

    public int order() {
        if (plan.days > ORDER_DAYS || plan.days == 0) {
            return STATE;
        }
        return planner.takeBestOrder();
    }

    public int rain(int day) {
        if (!plan.hasDay(day)) {
            return NONE;
        }
        int taken = planner.clearOutScenes(day);
        return 16 * taken + planner.fillWithIndoorScenes(day);
    }

    public int change(int day, int most, int sun) {
        if (!plan.hasDay(day)) {
            return NONE;
        }
        if (!isDayLength(most, sun)) {
            return BAD;
        }
        if (!plan.rows[day].fitsInto(most, sun)) {
            return STATE;
        }
        plan.most[day] = most;
        plan.sun[day] = sun;
        return 0;
    }

    public int count(int what) {
        switch (what) {
            case 0: return film.scenes;
            case 1: return plan.days;
            case 2: return Integer.bitCount(plan.scenesInRows());
            case 3: return Integer.bitCount(film.scenesAheadOfSome());
            default: return NONE;
        }
    }

    private int refusalToJoin(int scene, int day) {
        if (!film.hasScene(scene) || !plan.hasDay(day)) {
            return NONE;
        }
        return plan.dayWith(scene) == NONE ? 0 : STATE;
    }

    private static boolean within(int number, int least, int greatest) {
        return number >= least && number <= greatest;
    }

    private static boolean isPlace(int place) {
        return within(place, 0, PLACES - 1);
    }

    private static boolean isPlayer(int player) {
        return within(player, 0, PLAYERS - 1);
    }

    private static boolean isDayLength(int most, int sun) {
        return within(most, 60, 900) && within(sun, 0, 900);
    }

    private static boolean hasBit(int bits, int number) {
        return (bits >> number & 1) != 0;
    }

    /** What is told of scenes, players and places, whatever the plan is. */
    private static final class Film {
        final int[] minutes = new int[SCENES];
        final int[] place = new int[SCENES];
        final int[] light = new int[SCENES];
        final int[] out = new int[SCENES];
        final int[] players = new int[SCENES];
        /** For each scene those that were told to be ahead of it, as bits. */
        final int[] needs = new int[SCENES];
        final int[] pay = new int[PLAYERS];
        final int[] gap = new int[PLAYERS];
        final int[] rent = new int[PLACES];
        final int[] spot = new int[PLACES];
        int scenes;

        /** The scene's number, or FULL. */
        int addScene(int itsMinutes, int itsPlace, int itsLight, int isOut, int itsPlayers) {
            int scene = scenes;
            if (scene >= SCENES) {
                return FULL;
            }
            minutes[scene] = itsMinutes;
            place[scene] = itsPlace;
            light[scene] = itsLight;
            out[scene] = isOut;
            players[scene] = itsPlayers;
            scenes++;
            return scene;
        }

        boolean hasScene(int scene) {
            return scene >= 0 && scene < scenes;
        }

        int way(int from, int to) {
            int difference = spot[place[to]] - spot[place[from]];
            return difference < 0 ? -difference : difference;
        }

        int needsByOthersToo(int scene) {
            int found = needs[scene];
            // A chain of scenes has no more links than there are scenes.
            for (int link = 0; link < scenes; link++) {
                found |= needsOfAll(found);
            }
            return found;
        }

        private int needsOfAll(int bits) {
            int found = 0;
            for (int scene = 0; scene < scenes; scene++) {
                if (hasBit(bits, scene)) {
                    found |= needs[scene];
                }
            }
            return found;
        }

        int scenesAheadOfSome() {
            int found = 0;
            for (int scene = 0; scene < scenes; scene++) {
                found |= needs[scene];
            }
            return found;
        }
    }

    /** The scenes of one day in their order, and what is measured of them. */
    private static final class Row {
        final int[] scenes = new int[ROW_SCENES];
        int size;
        /** Its scenes, and those that must be ahead of one of them, as bits. */
        int members;
        int needs;
        int minutes;
        int sunMinutes;
        int players;
        int places;
        boolean night;
        /** Whether none of its scenes stands behind one that it must be ahead of. */
        boolean inTurn = true;

        int sceneAt(int i) {
            return i >= 0 && i < size ? scenes[i] : NONE;
        }

        boolean isFull() {
            return size >= ROW_SCENES;
        }

        void clear() {
            size = 0;
        }

        void append(int scene) {
            if (size < ROW_SCENES) {
                scenes[size] = scene;
                size++;
            }
        }

        void measure(Film film) {
            forget();
            for (int i = 0; i < size; i++) {
                measureScene(film, scenes[i]);
                if (i > 0) {
                    minutes += film.way(scenes[i - 1], scenes[i]);
                }
            }
            inTurn = isInTurn(film);
        }

        private void forget() {
            members = 0;
            needs = 0;
            minutes = 0;
            sunMinutes = 0;
            players = 0;
            places = 0;
            night = false;
        }

        private void measureScene(Film film, int scene) {
            members |= 1 << scene;
            needs |= film.needs[scene];
            minutes += film.minutes[scene];
            players |= film.players[scene];
            places |= 1 << film.place[scene];
            if (film.light[scene] == DAY_LIGHT) {
                sunMinutes += film.minutes[scene];
            }
            if (film.light[scene] == NIGHT_LIGHT) {
                night = true;
            }
        }

        private boolean isInTurn(Film film) {
            int toCome = members;
            for (int i = 0; i < size; i++) {
                if ((film.needs[scenes[i]] & toCome) != 0) {
                    return false;
                }
                toCome &= ~(1 << scenes[i]);
            }
            return true;
        }

        boolean fitsInto(int most, int sun) {
            return minutes <= most && sunMinutes <= sun;
        }

        boolean hasDayLight() {
            return sunMinutes > 0;
        }

        int halfHoursOver() {
            int over = minutes - FREE_MINUTES;
            return over <= 0 ? 0 : (over + HALF_HOUR - 1) / HALF_HOUR;
        }
    }

    /** The days, each with its row. */
    private static final class Plan {
        /** Behind the days' rows stand two that are in no day: what is tried comes in by an exchange, and goes by it. */
        static final int SPARE = DAYS;
        static final int SECOND_SPARE = DAYS + 1;

        final Film film;
        final Row[] rows = new Row[DAYS + 2];
        final int[] most = new int[DAYS];
        final int[] sun = new int[DAYS];
        int days;

        Plan(Film film) {
            this.film = film;
            for (int i = 0; i < rows.length; i++) {
                rows[i] = new Row();
            }
        }

        /** The day's number, or FULL. */
        int addDay(int itsMost, int itsSun) {
            int day = days;
            if (day >= DAYS) {
                return FULL;
            }
            most[day] = itsMost;
            sun[day] = itsSun;
            days++;
            return day;
        }

        boolean hasDay(int day) {
            return day >= 0 && day < days;
        }

        void measureRows() {
            for (int day = 0; day < days; day++) {
                rows[day].measure(film);
            }
        }

        void exchange(int a, int b) {
            Row row = rows[a];
            rows[a] = rows[b];
            rows[b] = row;
        }

        boolean keeps() {
            int later = 0;
            boolean dayLightNext = false;
            for (int day = days - 1; day >= 0; day--) {
                Row row = rows[day];
                if (!row.fitsInto(most[day], sun[day]) || !row.inTurn) {
                    return false;
                }
                if (row.night && dayLightNext || (row.needs & later) != 0) {
                    return false;
                }
                later |= row.members;
                dayLightNext = row.hasDayLight();
            }
            return true;
        }

        int scenesInRows() {
            int found = 0;
            for (int day = 0; day < days; day++) {
                found |= rows[day].members;
            }
            return found;
        }

        int dayWith(int scene) {
            for (int day = 0; day < days; day++) {
                if (hasBit(rows[day].members, scene)) {
                    return day;
                }
            }
            return NONE;
        }

        int placeInRow(int scene) {
            int day = dayWith(scene);
            if (day == NONE) {
                return NONE;
            }
            Row row = rows[day];
            for (int i = 0; i < row.size; i++) {
                if (row.scenes[i] == scene) {
                    return i;
                }
            }
            return NONE;
        }

        boolean plays(int player, int day) {
            return hasBit(rows[day].players, player);
        }

        int firstDayOf(int player) {
            for (int day = 0; day < days; day++) {
                if (plays(player, day)) {
                    return day;
                }
            }
            return NONE;
        }

        int lastDayOf(int player) {
            for (int day = days - 1; day >= 0; day--) {
                if (plays(player, day)) {
                    return day;
                }
            }
            return NONE;
        }

        int daysWith(int player) {
            int found = 0;
            for (int day = 0; day < days; day++) {
                if (plays(player, day)) {
                    found++;
                }
            }
            return found;
        }

        int greatestMost() {
            int greatest = 0;
            for (int day = 0; day < days; day++) {
                greatest = Math.max(greatest, most[day]);
            }
            return greatest;
        }
    }

    /** What the plan costs, and what no plan of its scenes can cost less than. */
    private static final class Bill {
        final Film film;
        final Plan plan;

        Bill(Film film, Plan plan) {
            this.film = film;
            this.plan = plan;
        }

        int total() {
            return wages() + rents() + overtime();
        }

        int wages() {
            int sum = 0;
            for (int player = 0; player < PLAYERS; player++) {
                if (film.pay[player] > 0) {
                    sum += film.pay[player] * paidDays(player);
                }
            }
            return sum;
        }

        int paidDays(int player) {
            int paid = 0;
            int idle = 0;
            for (int day = 0; day < plan.days; day++) {
                if (!plan.plays(player, day)) {
                    idle++;
                    continue;
                }
                // Idle days ahead of the first day with a scene are not between two.
                if (paid > 0 && !isLetGo(player, idle)) {
                    paid += idle;
                }
                paid++;
                idle = 0;
            }
            return paid;
        }

        private boolean isLetGo(int player, int idle) {
            return film.gap[player] > 0 && idle >= film.gap[player];
        }

        int rents() {
            int sum = 0;
            for (int day = 0; day < plan.days; day++) {
                sum += rentOf(plan.rows[day].places);
            }
            return sum;
        }

        private int rentOf(int places) {
            int sum = 0;
            for (int place = 0; place < PLACES; place++) {
                if (hasBit(places, place)) {
                    sum += film.rent[place];
                }
            }
            return sum;
        }

        int overtime() {
            int halfHours = 0;
            for (int day = 0; day < plan.days; day++) {
                halfHours += plan.rows[day].halfHoursOver();
            }
            return halfHours * HALF_HOUR_COST;
        }

        int leastPossible() {
            int greatest = plan.greatestMost();
            if (greatest <= 0) {
                return 0;
            }
            int sum = 0;
            for (int player = 0; player < PLAYERS; player++) {
                int fewestDays = (minutesInRows(player) + greatest - 1) / greatest;
                sum += film.pay[player] * fewestDays;
            }
            return sum + rentOf(placesInRows());
        }

        private int minutesInRows(int player) {
            int inRows = plan.scenesInRows();
            int sum = 0;
            for (int scene = 0; scene < film.scenes; scene++) {
                if (hasBit(inRows, scene) && hasBit(film.players[scene], player)) {
                    sum += film.minutes[scene];
                }
            }
            return sum;
        }

        private int placesInRows() {
            int places = 0;
            for (int day = 0; day < plan.days; day++) {
                places |= plan.rows[day].places;
            }
            return places;
        }
    }

    /** Finds the order of a day's scenes that has the fewest minutes, of several the first by scenes. */
    private static final class Arranger {
        final Film film;
        final int[] pool = new int[ROW_SCENES];
        final int[] tried = new int[ROW_SCENES];
        final int[] best = new int[ROW_SCENES];
        int size;
        int members;
        int fewest;

        Arranger(Film film) {
            this.film = film;
        }

        /** No scene is ahead of itself, by others neither, so that there is always such an order. */
        void arrange(int scenes, Row into) {
            fillPool(scenes);
            fewest = Integer.MAX_VALUE;
            tryEach(0, 0, 0);
            into.clear();
            for (int i = 0; i < size; i++) {
                into.append(best[i]);
            }
            into.measure(film);
        }

        private void fillPool(int scenes) {
            size = 0;
            members = 0;
            for (int scene = 0; scene < film.scenes && size < ROW_SCENES; scene++) {
                if (hasBit(scenes, scene)) {
                    pool[size] = scene;
                    members |= 1 << scene;
                    size++;
                }
            }
        }

        /** Scenes are tried by number, so that of orders with the same ways the first one found is the one to take. */
        private void tryEach(int depth, int placed, int ways) {
            if (depth >= size) {
                fewest = ways;
                System.arraycopy(tried, 0, best, 0, size);
                return;
            }
            for (int i = 0; i < size; i++) {
                int waitsFor = film.needs[pool[i]] & members & ~placed;
                if (!hasBit(placed, pool[i]) && waitsFor == 0) {
                    tryNext(pool[i], depth, placed, ways);
                }
            }
        }

        /** Ways only grow by more scenes: what has no fewer than the best order has now is given up here. */
        private void tryNext(int scene, int depth, int placed, int ways) {
            int longer = depth > 0 ? ways + film.way(tried[depth - 1], scene) : ways;
            if (longer < fewest) {
                tried[depth] = scene;
                tryEach(depth + 1, placed | 1 << scene, longer);
            }
        }
    }

    /** Changes the plan, and only to one that keeps. */
    private static final class Planner {
        final Film film;
        final Plan plan;
        final Bill bill;
        final Arranger arranger;
        final Row[] rowsBefore = new Row[DAYS];
        final int[] turns = new int[DAYS];
        final int[] bestTurns = new int[DAYS];

        Planner(Film film, Plan plan, Bill bill) {
            this.film = film;
            this.plan = plan;
            this.bill = bill;
            arranger = new Arranger(film);
            for (int day = 0; day < DAYS; day++) {
                rowsBefore[day] = plan.rows[day];
            }
        }

        /** 0: the scene is in the day's row now; 1: it may not be; 2: the row has no room. */
        int join(int scene, int day) {
            if (plan.rows[day].isFull()) {
                return 2;
            }
            arranger.arrange(plan.rows[day].members | 1 << scene, plan.rows[Plan.SPARE]);
            plan.exchange(day, Plan.SPARE);
            if (plan.keeps()) {
                return 0;
            }
            plan.exchange(day, Plan.SPARE);
            return 1;
        }

        int couldJoin(int scene, int day) {
            int answer = join(scene, day);
            if (answer == 0) {
                plan.exchange(day, Plan.SPARE);
            }
            return answer;
        }

        void leave(int scene, int day) {
            Row row = plan.rows[day];
            Row rest = plan.rows[Plan.SECOND_SPARE];
            rest.clear();
            for (int i = 0; i < row.size; i++) {
                if (row.scenes[i] != scene) {
                    rest.append(row.scenes[i]);
                }
            }
            rest.measure(film);
            plan.exchange(day, Plan.SECOND_SPARE);
        }

        void arrangeDay(int day) {
            arranger.arrange(plan.rows[day].members, plan.rows[Plan.SPARE]);
            plan.exchange(day, Plan.SPARE);
        }

        boolean makeFirstGoodMove() {
            int total = bill.total();
            for (int scene = 0; scene < film.scenes; scene++) {
                int from = plan.dayWith(scene);
                for (int to = 0; to < plan.days && from != NONE; to++) {
                    if (to != from && moveIfGood(scene, from, to, total)) {
                        return true;
                    }
                }
            }
            return false;
        }

        private boolean moveIfGood(int scene, int from, int to, int total) {
            leave(scene, from);
            if (join(scene, to) == 0) {
                if (bill.total() < total) {
                    return true;
                }
                plan.exchange(to, Plan.SPARE);
            }
            plan.exchange(from, Plan.SECOND_SPARE);
            return false;
        }

        boolean makeFirstGoodTrade() {
            int total = bill.total();
            for (int a = 0; a < plan.days; a++) {
                for (int b = a + 1; b < plan.days; b++) {
                    plan.exchange(a, b);
                    if (plan.keeps() && bill.total() < total) {
                        return true;
                    }
                    plan.exchange(a, b);
                }
            }
            return false;
        }

        /** The first order is the one that stands, which keeps; the others come by their days, so that only a cheaper one wins. */
        int takeBestOrder() {
            for (int day = 0; day < plan.days; day++) {
                rowsBefore[day] = plan.rows[day];
                turns[day] = day;
                bestTurns[day] = day;
            }
            int least = bill.total();
            for (int tries = 1; tries < ORDERS && toNextTurns(plan.days); tries++) {
                giveRows(turns);
                if (plan.keeps() && bill.total() < least) {
                    least = bill.total();
                    System.arraycopy(turns, 0, bestTurns, 0, plan.days);
                }
            }
            giveRows(bestTurns);
            return least;
        }

        private void giveRows(int[] order) {
            for (int day = 0; day < plan.days; day++) {
                plan.rows[day] = rowsBefore[order[day]];
            }
        }

        /** Makes turns the next greater order of its numbers; false if there is none. */
        private boolean toNextTurns(int length) {
            int rise = length - 2;
            while (rise >= 0 && turns[rise] > turns[rise + 1]) {
                rise--;
            }
            if (rise < 0) {
                return false;
            }
            int greater = length - 1;
            while (greater > rise && turns[greater] < turns[rise]) {
                greater--;
            }
            swapTurns(rise, greater);
            // Behind the rise the numbers fall; turned about they are in their least order.
            int behind = length - 1 - rise;
            for (int i = 0; i < behind / 2; i++) {
                swapTurns(rise + 1 + i, length - 1 - i);
            }
            return true;
        }

        private void swapTurns(int a, int b) {
            int turn = turns[a];
            turns[a] = turns[b];
            turns[b] = turn;
        }

        int clearOutScenes(int day) {
            int members = plan.rows[day].members;
            int taken = 0;
            for (int scene = 0; scene < film.scenes; scene++) {
                if (hasBit(members, scene) && film.out[scene] == 1) {
                    leave(scene, day);
                    taken++;
                }
            }
            return taken;
        }

        /** What the rain has just taken is out, so that it is not asked for a second time. */
        int fillWithIndoorScenes(int day) {
            int joined = 0;
            for (int scene = 0; scene < film.scenes; scene++) {
                boolean mayCome = film.out[scene] == 0 && plan.dayWith(scene) == NONE;
                if (mayCome && join(scene, day) == 0) {
                    joined++;
                }
            }
            return joined;
        }
    }
}
