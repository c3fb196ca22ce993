/** For each promise of the document calls whose answers were worked out by hand from its words. */
public final class PromiseTest {
    private static final int NONE = -1;
    private static final int BAD = -2;
    private static final int STATE = -3;
    private static final int FULL = -4;
    private static final int LOW = Integer.MIN_VALUE;
    private static final int HIGH = Integer.MAX_VALUE;

    private static int wrong = 0;
    private static String promise = "";

    public static void main(String[] args) {
        newObject();
        lastPromisedCall();
        scene();
        player();
        rent();
        spot();
        ahead();
        day();
        about();
        row();
        of();
        held();
        cost();
        below();
        may();
        put();
        take();
        tidy();
        trade();
        better();
        betterLimit();
        order();
        rain();
        change();
        count();
        rules();
        System.out.println(wrong == 0 ? "all answers are as due" : wrong + " answers are not as due");
        if (wrong != 0) {
            System.exit(1);
        }
    }

    private static void due(String call, int got, int want) {
        if (got != want) {
            wrong++;
            System.out.println(promise + ": " + call + " answered " + got + ", due is " + want);
        }
    }

    private static void rowDue(ShootingDays x, int day, int... scenes) {
        due("of(" + day + ", 0)", x.of(day, 0), scenes.length);
        for (int i = 0; i < scenes.length; i++) {
            due("row(" + day + ", " + i + ")", x.row(day, i), scenes[i]);
        }
        due("row(" + day + ", " + scenes.length + ")", x.row(day, scenes.length), NONE);
    }

    /** Days of 900 minutes, all of them light, without scenes. */
    private static ShootingDays withDays(int days) {
        ShootingDays x = new ShootingDays();
        for (int i = 0; i < days; i++) {
            x.day(900, 900);
        }
        return x;
    }

    private static void newObject() {
        promise = "1 a new object";
        ShootingDays x = new ShootingDays();
        due("count(0)", x.count(0), 0);
        due("count(1)", x.count(1), 0);
        due("count(2)", x.count(2), 0);
        due("count(3)", x.count(3), 0);
        due("about(0, 0)", x.about(0, 0), NONE);
        due("of(0, 0)", x.of(0, 0), NONE);
        due("row(0, 0)", x.row(0, 0), NONE);
        due("cost(0)", x.cost(0), 0);
        due("below()", x.below(), 0);
        due("better()", x.better(), 0);
        due("order()", x.order(), STATE);
        due("rent(0, 0)", x.rent(0, 0), 0);
        due("spot(7, 0)", x.spot(7, 0), 0);
        due("held(0, 0)", x.held(0, 0), NONE);
        due("held(0, 3)", x.held(0, 3), 0);
        x.scene(10, 0, 0, 0, 0);
        due("a second object's count(0)", new ShootingDays().count(0), 0);
    }

    private static void lastPromisedCall() {
        promise = "1 a new object, used for at most 512 calls";
        ShootingDays x = withDays(8);
        int calls = 8;
        for (int s = 0; s < 20; s++) {
            due("scene " + s, x.scene(5, 0, 0, 0, 0), s);
            calls++;
        }
        while (calls < 510) {
            due("a refused call", x.scene(5, 0, 0, 0, 0), FULL);
            calls++;
        }
        due("the 511th call", x.put(19, 7), 0);
        due("the 512th call", x.about(19, 5), 7);
    }

    private static void scene() {
        promise = "2 scene";
        ShootingDays x = new ShootingDays();
        due("the least", x.scene(5, 0, 0, 0, 0), 0);
        due("the greatest", x.scene(300, 7, 2, 1, 255), 1);
        due("minutes 4", x.scene(4, 0, 0, 0, 0), BAD);
        due("minutes 301", x.scene(301, 0, 0, 0, 0), BAD);
        due("light -1", x.scene(5, 0, -1, 0, 0), BAD);
        due("light 3", x.scene(5, 0, 3, 0, 0), BAD);
        due("out -1", x.scene(5, 0, 0, -1, 0), BAD);
        due("out 2", x.scene(5, 0, 0, 2, 0), BAD);
        due("players -1", x.scene(5, 0, 0, 0, -1), BAD);
        due("players 256", x.scene(5, 0, 0, 0, 256), BAD);
        due("place -1", x.scene(5, -1, 0, 0, 0), NONE);
        due("place 8", x.scene(5, 8, 0, 0, 0), NONE);
        due("BAD ahead of NONE, minutes", x.scene(LOW, 8, 0, 0, 0), BAD);
        due("BAD ahead of NONE, players", x.scene(5, HIGH, 0, 0, HIGH), BAD);
        due("count(0)", x.count(0), 2);
        for (int s = 2; s < 20; s++) {
            due("scene " + s, x.scene(20, 1, 1, 1, 1), s);
        }
        due("the 21st", x.scene(20, 1, 1, 1, 1), FULL);
        due("NONE ahead of FULL", x.scene(20, 8, 1, 1, 1), NONE);
        due("BAD ahead of FULL", x.scene(20, 1, 1, 2, 1), BAD);
        due("count(0)", x.count(0), 20);
        due("in no row", x.about(19, 5), NONE);
        due("count(2)", x.count(2), 0);
    }

    private static void player() {
        promise = "3 player";
        ShootingDays x = withDays(3);
        x.scene(10, 0, 0, 0, 129);
        x.scene(10, 0, 0, 0, 129);
        x.put(0, 0);
        x.put(1, 2);
        due("cost(1) at first", x.cost(1), 0);
        due("player(0, 1000, 0)", x.player(0, 1000, 0), 0);
        due("cost(1)", x.cost(1), 3000);
        due("player(7, 1, 10)", x.player(7, 1, 10), 0);
        due("cost(1)", x.cost(1), 3003);
        due("player(0, 100, 1)", x.player(0, 100, 1), 0);
        due("cost(1)", x.cost(1), 203);
        due("player(-1, ..)", x.player(-1, 0, 0), NONE);
        due("player(8, ..)", x.player(8, 0, 0), NONE);
        due("NONE ahead of BAD", x.player(8, -1, 0), NONE);
        due("pay -1", x.player(0, -1, 0), BAD);
        due("pay 1001", x.player(0, 1001, 0), BAD);
        due("gap -1", x.player(0, 0, -1), BAD);
        due("gap 11", x.player(0, 0, 11), BAD);
        due("cost(1) after refusals", x.cost(1), 203);
    }

    private static void rent() {
        promise = "4 rent";
        ShootingDays x = withDays(1);
        x.scene(10, 7, 0, 0, 0);
        x.put(0, 0);
        due("rent(7, 1000)", x.rent(7, 1000), 0);
        due("cost(2)", x.cost(2), 1000);
        due("rent(7, 30)", x.rent(7, 30), 1000);
        due("rent(7, -1)", x.rent(7, -1), BAD);
        due("rent(7, 1001)", x.rent(7, 1001), BAD);
        due("rent(-1, 0)", x.rent(-1, 0), NONE);
        due("rent(8, 1001)", x.rent(8, 1001), NONE);
        due("cost(2)", x.cost(2), 30);
        due("rent(0, 5)", x.rent(0, 5), 0);
        due("cost(2)", x.cost(2), 30);
        due("rent(7, 0)", x.rent(7, 0), 30);
    }

    private static void spot() {
        promise = "5 spot";
        ShootingDays x = new ShootingDays();
        x.day(200, 0);
        x.scene(50, 0, 0, 0, 0);
        x.scene(50, 1, 0, 0, 0);
        x.put(0, 0);
        x.put(1, 0);
        due("spot(1, 100)", x.spot(1, 100), 0);
        due("of(0, 1)", x.of(0, 1), 200);
        due("spot(1, 101)", x.spot(1, 101), STATE);
        due("of(0, 1)", x.of(0, 1), 200);
        due("spot(0, 120)", x.spot(0, 120), 0);
        due("of(0, 1), the way is a difference", x.of(0, 1), 120);
        due("spot(0, 120) again", x.spot(0, 120), 120);
        due("spot(1, 19)", x.spot(1, 19), STATE);
        due("spot(1, 20)", x.spot(1, 20), 100);
        due("spot(-1, 0)", x.spot(-1, 0), NONE);
        due("spot(8, 121)", x.spot(8, 121), NONE);
        due("spot(1, -1)", x.spot(1, -1), BAD);
        due("spot(1, 121)", x.spot(1, 121), BAD);
        due("spot(5, 120)", x.spot(5, 120), 0);
    }

    private static void ahead() {
        promise = "6 ahead";
        ShootingDays x = withDays(2);
        for (int s = 0; s < 5; s++) {
            x.scene(10, 0, 0, 0, 0);
        }
        due("ahead(0, 1)", x.ahead(0, 1), 1);
        due("ahead(0, 1) again", x.ahead(0, 1), 0);
        due("ahead(1, 0)", x.ahead(1, 0), BAD);
        due("ahead(2, 2)", x.ahead(2, 2), BAD);
        due("ahead(1, 2)", x.ahead(1, 2), 1);
        due("ahead(2, 3)", x.ahead(2, 3), 1);
        due("ahead(3, 0), by others", x.ahead(3, 0), BAD);
        due("ahead(2, 0), by others", x.ahead(2, 0), BAD);
        due("ahead(0, 3), not told yet", x.ahead(0, 3), 1);
        due("ahead(-1, 0)", x.ahead(-1, 0), NONE);
        due("ahead(0, 5)", x.ahead(0, 5), NONE);
        due("ahead(5, 5), NONE ahead of BAD", x.ahead(5, 5), NONE);
        x.put(4, 0);
        x.put(3, 1);
        due("ahead(3, 4), a later day", x.ahead(3, 4), STATE);
        due("about(4, 7)", x.about(4, 7), 0);
        due("ahead(4, 3), an earlier day", x.ahead(4, 3), 1);
        due("about(3, 7)", x.about(3, 7), 1 << 0 | 1 << 2 | 1 << 4);
        ShootingDays y = withDays(1);
        y.scene(10, 0, 0, 0, 0);
        y.scene(10, 0, 0, 0, 0);
        y.put(0, 0);
        y.put(1, 0);
        due("ahead(1, 0), behind in the same row", y.ahead(1, 0), STATE);
        due("ahead(0, 1), ahead in the same row", y.ahead(0, 1), 1);
    }

    private static void day() {
        promise = "7 day";
        ShootingDays x = new ShootingDays();
        due("day(60, 0)", x.day(60, 0), 0);
        due("day(900, 900)", x.day(900, 900), 1);
        due("day(59, 0)", x.day(59, 0), BAD);
        due("day(901, 0)", x.day(901, 0), BAD);
        due("day(60, -1)", x.day(60, -1), BAD);
        due("day(60, 901)", x.day(60, 901), BAD);
        due("day(60, 900), more sun than minutes", x.day(60, 900), 2);
        for (int d = 3; d < 8; d++) {
            due("day " + d, x.day(100, 100), d);
        }
        due("a ninth", x.day(100, 100), FULL);
        due("BAD ahead of FULL", x.day(100, HIGH), BAD);
        due("count(1)", x.count(1), 8);
        due("of(7, 0)", x.of(7, 0), 0);
    }

    private static void about() {
        promise = "8 about";
        ShootingDays x = withDays(2);
        x.scene(10, 1, 0, 0, 0);
        x.scene(77, 6, 2, 1, 200);
        x.ahead(0, 1);
        due("about(1, 0)", x.about(1, 0), 77);
        due("about(1, 1)", x.about(1, 1), 6);
        due("about(1, 2)", x.about(1, 2), 2);
        due("about(1, 3)", x.about(1, 3), 1);
        due("about(1, 4)", x.about(1, 4), 200);
        due("about(1, 5)", x.about(1, 5), NONE);
        due("about(1, 6)", x.about(1, 6), NONE);
        due("about(1, 7)", x.about(1, 7), 1);
        due("about(0, 7)", x.about(0, 7), 0);
        x.put(0, 1);
        x.put(1, 1);
        due("about(1, 5)", x.about(1, 5), 1);
        due("about(1, 6)", x.about(1, 6), 1);
        due("about(0, 6)", x.about(0, 6), 0);
        due("about(1, 8)", x.about(1, 8), NONE);
        due("about(1, -1)", x.about(1, -1), NONE);
        due("about(2, 0)", x.about(2, 0), NONE);
        due("about(-1, 0)", x.about(-1, 0), NONE);
        due("about(HIGH, LOW)", x.about(HIGH, LOW), NONE);
    }

    private static void row() {
        promise = "9 row";
        ShootingDays x = withDays(1);
        x.scene(10, 0, 0, 0, 0);
        due("row(0, 0), none there", x.row(0, 0), NONE);
        x.put(0, 0);
        due("row(0, 0)", x.row(0, 0), 0);
        due("row(0, 1)", x.row(0, 1), NONE);
        due("row(0, -1)", x.row(0, -1), NONE);
        due("row(0, 5)", x.row(0, 5), NONE);
        due("row(1, 0)", x.row(1, 0), NONE);
        due("row(-1, 0)", x.row(-1, 0), NONE);
        due("row(8, 0)", x.row(8, 0), NONE);
        due("row(LOW, HIGH)", x.row(LOW, HIGH), NONE);
    }

    private static void of() {
        promise = "10 of";
        ShootingDays x = withDays(2);
        x.spot(1, 30);
        x.scene(240, 0, 1, 0, 1);
        x.scene(210, 1, 1, 0, 6);
        x.scene(5, 1, 2, 0, 129);
        x.scene(25, 1, 0, 0, 0);
        x.scene(5, 1, 0, 0, 0);
        due("of(0, 5)", x.of(0, 5), 0);
        x.put(0, 0);
        x.put(1, 0);
        due("of(0, 0)", x.of(0, 0), 2);
        due("of(0, 1)", x.of(0, 1), 480);
        due("of(0, 2) at 480", x.of(0, 2), 0);
        due("of(0, 3)", x.of(0, 3), 7);
        due("of(0, 4)", x.of(0, 4), 450);
        due("of(0, 5)", x.of(0, 5), 0);
        x.put(2, 0);
        due("of(0, 1)", x.of(0, 1), 485);
        due("of(0, 2) at 485", x.of(0, 2), 1);
        due("of(0, 3)", x.of(0, 3), 135);
        due("of(0, 4)", x.of(0, 4), 450);
        due("of(0, 5)", x.of(0, 5), 1);
        x.put(3, 0);
        due("of(0, 2) at 510", x.of(0, 2), 1);
        x.put(4, 0);
        due("of(0, 2) at 515", x.of(0, 2), 2);
        due("of(0, 0)", x.of(0, 0), 5);
        due("of(1, 1)", x.of(1, 1), 0);
        due("of(1, 2)", x.of(1, 2), 0);
        due("of(0, 6)", x.of(0, 6), NONE);
        due("of(0, -1)", x.of(0, -1), NONE);
        due("of(2, 0)", x.of(2, 0), NONE);
        due("of(-1, 0)", x.of(-1, 0), NONE);
    }

    private static void held() {
        promise = "11 held";
        ShootingDays x = withDays(8);
        for (int s = 0; s < 4; s++) {
            x.scene(10, 0, 0, 0, 4);
        }
        x.player(2, 100, 2);
        due("held(2, 0)", x.held(2, 0), NONE);
        due("held(2, 1)", x.held(2, 1), NONE);
        due("held(2, 2)", x.held(2, 2), 0);
        due("held(2, 3)", x.held(2, 3), 0);
        x.put(0, 1);
        due("held(2, 3) of one day", x.held(2, 3), 1);
        x.put(1, 3);
        x.put(2, 6);
        x.put(3, 6);
        due("held(2, 0)", x.held(2, 0), 1);
        due("held(2, 1)", x.held(2, 1), 6);
        due("held(2, 2)", x.held(2, 2), 3);
        due("held(2, 3), gap 2: day 2 is paid, 4 and 5 are not", x.held(2, 3), 4);
        x.player(2, 100, 3);
        due("held(2, 3), gap 3", x.held(2, 3), 6);
        x.player(2, 100, 1);
        due("held(2, 3), gap 1", x.held(2, 3), 3);
        x.player(2, 100, 0);
        due("held(2, 3), no gap", x.held(2, 3), 6);
        due("held(2, 4)", x.held(2, 4), NONE);
        due("held(2, -1)", x.held(2, -1), NONE);
        due("held(8, 0)", x.held(8, 0), NONE);
        due("held(-1, 2)", x.held(-1, 2), NONE);
        due("held(7, 2)", x.held(7, 2), 0);
    }

    private static void cost() {
        promise = "12 cost";
        ShootingDays x = withDays(3);
        x.player(0, 100, 0);
        x.player(1, 7, 1);
        x.rent(0, 30);
        x.rent(1, 1000);
        x.scene(300, 0, 0, 0, 3);
        x.scene(200, 0, 0, 0, 1);
        x.scene(100, 0, 0, 0, 2);
        x.scene(100, 1, 0, 0, 2);
        x.put(0, 0);
        x.put(1, 0);
        x.put(2, 2);
        due("cost(1): 100 + 2 * 7", x.cost(1), 114);
        due("cost(2): 2 days at place 0", x.cost(2), 60);
        due("cost(3): 500 minutes", x.cost(3), 50);
        due("cost(0)", x.cost(0), 224);
        x.put(3, 0);
        due("cost(3): 600 minutes", x.cost(3), 200);
        due("cost(0)", x.cost(0), 114 + 1060 + 200);
        due("cost(4)", x.cost(4), NONE);
        due("cost(-1)", x.cost(-1), NONE);
    }

    private static void below() {
        promise = "13 below";
        ShootingDays x = new ShootingDays();
        x.player(0, 100, 0);
        x.player(1, 7, 0);
        x.player(2, 1000, 0);
        x.rent(0, 30);
        x.rent(1, 500);
        x.scene(300, 0, 0, 0, 3);
        x.scene(300, 0, 0, 0, 1);
        x.scene(10, 0, 0, 0, 1);
        x.scene(10, 1, 0, 0, 4);
        due("without days", x.below(), 0);
        x.day(300, 0);
        x.day(300, 0);
        x.day(60, 0);
        due("no scene in a row", x.below(), 0);
        x.put(0, 0);
        x.put(1, 1);
        due("600 minutes by 300", x.below(), 2 * 100 + 7 + 30);
        x.put(2, 2);
        due("610 minutes by 300", x.below(), 3 * 100 + 7 + 30);
        x.change(2, 610, 0);
        due("610 minutes by the greatest most, 610", x.below(), 100 + 7 + 30);
    }

    private static void may() {
        promise = "14 may";
        ShootingDays x = new ShootingDays();
        x.day(100, 50);
        x.day(900, 900);
        x.scene(60, 0, 1, 0, 0);
        x.scene(101, 0, 0, 0, 0);
        x.scene(40, 0, 0, 0, 0);
        due("more light than sun", x.may(0, 0), 1);
        due("more than most", x.may(1, 0), 1);
        due("may(2, 0)", x.may(2, 0), 0);
        due("it changes nothing", x.about(2, 5), NONE);
        due("it changes nothing", x.of(0, 0), 0);
        due("may(3, 0)", x.may(3, 0), NONE);
        due("may(-1, 0)", x.may(-1, 0), NONE);
        due("may(0, 2)", x.may(0, 2), NONE);
        due("may(0, -1)", x.may(0, -1), NONE);
        x.put(2, 1);
        due("in a row", x.may(2, 0), STATE);
        due("in this row", x.may(2, 1), STATE);
        due("NONE ahead of STATE", x.may(2, 2), NONE);
        for (int s = 3; s < 7; s++) {
            x.scene(5, 0, 0, 0, 0);
            x.put(s, 1);
        }
        due("the row has 5", x.may(0, 1), 2);
        due("STATE ahead of a full row", x.may(3, 1), STATE);
        x.scene(5, 0, 1, 0, 0);
        due("may(7, 0)", x.may(7, 0), 0);
    }

    private static void put() {
        promise = "15 put";
        ShootingDays x = withDays(2);
        x.spot(1, 50);
        x.spot(2, 100);
        x.scene(10, 1, 0, 0, 0);
        x.scene(10, 2, 0, 0, 0);
        x.scene(10, 0, 0, 0, 0);
        x.scene(10, 1, 0, 0, 0);
        due("put(0, 0)", x.put(0, 0), 0);
        due("put(1, 0)", x.put(1, 0), 0);
        rowDue(x, 0, 0, 1);
        due("put(2, 0)", x.put(2, 0), 0);
        // 1 0 2 and 2 0 1 have the same ways; the least first scene wins.
        rowDue(x, 0, 1, 0, 2);
        due("of(0, 1)", x.of(0, 1), 130);
        due("put(3, 0)", x.put(3, 0), 0);
        rowDue(x, 0, 1, 0, 3, 2);
        x.take(3);
        due("ahead(2, 3)", x.ahead(2, 3), 1);
        due("ahead(3, 1)", x.ahead(3, 1), 1);
        due("no order of its row: 1 is ahead of 2", x.about(1, 6), 0);
        due("put(3, 0)", x.put(3, 0), 0);
        // 2 must be ahead of 3, and 3 of 1: 0 stands beside 3 without a way more.
        rowDue(x, 0, 2, 0, 3, 1);
        due("put(3, 0), in a row", x.put(3, 0), STATE);
        due("put(4, 0)", x.put(4, 0), NONE);
        due("put(3, 2)", x.put(3, 2), NONE);
        x.scene(10, 0, 0, 0, 0);
        x.scene(10, 0, 0, 0, 0);
        due("put(4, 0)", x.put(4, 0), 0);
        due("put(5, 0), the row has 5", x.put(5, 0), 2);
        due("about(5, 5)", x.about(5, 5), NONE);
        ShootingDays y = new ShootingDays();
        y.day(70, 0);
        y.spot(1, 50);
        y.scene(10, 0, 0, 0, 0);
        y.scene(11, 1, 0, 0, 0);
        y.put(0, 0);
        due("the way is too much", y.put(1, 0), 1);
        due("about(1, 5)", y.about(1, 5), NONE);
        rowDue(y, 0, 0);
        y.spot(1, 49);
        due("just as much as most", y.put(1, 0), 0);
        rowDue(y, 0, 0, 1);
    }

    private static void take() {
        promise = "16 take";
        ShootingDays x = withDays(2);
        x.scene(10, 0, 0, 0, 0);
        x.scene(20, 0, 0, 0, 0);
        x.scene(30, 0, 0, 0, 0);
        due("take(0), in none", x.take(0), STATE);
        due("take(3)", x.take(3), NONE);
        due("take(-1)", x.take(-1), NONE);
        x.put(0, 1);
        x.put(1, 1);
        x.put(2, 1);
        due("take(1)", x.take(1), 1);
        rowDue(x, 1, 0, 2);
        due("of(1, 1)", x.of(1, 1), 40);
        due("about(1, 5)", x.about(1, 5), NONE);
        due("about(2, 6)", x.about(2, 6), 1);
        due("take(1) again", x.take(1), STATE);
        // What is left keeps its order, even one that is no longer the first of those with the same minutes.
        ShootingDays y = withDays(1);
        for (int s = 0; s < 3; s++) {
            y.scene(10, 0, 0, 0, 0);
        }
        y.ahead(2, 1);
        y.ahead(1, 0);
        y.put(0, 0);
        y.put(1, 0);
        y.put(2, 0);
        rowDue(y, 0, 2, 1, 0);
        due("take(1)", y.take(1), 0);
        rowDue(y, 0, 2, 0);
    }

    private static void tidy() {
        promise = "17 tidy";
        ShootingDays x = withDays(2);
        due("tidy(0), no scenes", x.tidy(0), 0);
        for (int s = 0; s < 3; s++) {
            x.scene(10, s, 0, 0, 0);
            x.put(s, 0);
        }
        rowDue(x, 0, 0, 1, 2);
        x.spot(1, 100);
        x.spot(2, 40);
        due("of(0, 1), as it stands", x.of(0, 1), 30 + 100 + 60);
        due("tidy(0)", x.tidy(0), 30 + 100);
        rowDue(x, 0, 0, 2, 1);
        x.ahead(2, 1);
        x.spot(1, 0);
        x.spot(0, 120);
        due("tidy(0), 2 is ahead of 1", x.tidy(0), 30 + 120);
        rowDue(x, 0, 0, 2, 1);
        x.spot(2, 0);
        x.spot(0, 0);
        due("tidy(0), the least scenes first", x.tidy(0), 30);
        rowDue(x, 0, 0, 2, 1);
        due("tidy(2)", x.tidy(2), NONE);
        due("tidy(-1)", x.tidy(-1), NONE);
        due("tidy(HIGH)", x.tidy(HIGH), NONE);
    }

    private static void trade() {
        promise = "18 trade";
        ShootingDays x = new ShootingDays();
        x.day(100, 100);
        x.day(200, 100);
        x.day(300, 50);
        x.player(0, 10, 0);
        x.scene(100, 0, 1, 0, 1);
        x.scene(150, 0, 0, 0, 0);
        x.scene(20, 0, 0, 0, 1);
        x.put(0, 0);
        x.put(1, 1);
        due("more than most", x.trade(0, 1), STATE);
        due("more light than sun", x.trade(0, 2), STATE);
        rowDue(x, 0, 0);
        rowDue(x, 1, 1);
        x.put(2, 1);
        due("cost(0)", x.cost(0), 20);
        due("trade(2, 1)", x.trade(2, 1), 30);
        rowDue(x, 1);
        rowDue(x, 2, 1, 2);
        x.ahead(0, 2);
        due("trade(0, 1)", x.trade(0, 1), 20);
        due("trade(0, 0)", x.trade(0, 0), BAD);
        due("trade(3, 3), NONE ahead of BAD", x.trade(3, 3), NONE);
        due("trade(0, 3)", x.trade(0, 3), NONE);
        due("trade(-1, 0)", x.trade(-1, 0), NONE);
        ShootingDays y = withDays(2);
        y.scene(10, 0, 0, 0, 0);
        y.scene(10, 0, 0, 0, 0);
        y.put(0, 0);
        y.put(1, 1);
        y.ahead(0, 1);
        due("0 is ahead of 1", y.trade(0, 1), STATE);
        rowDue(y, 0, 0);
        ShootingDays z = withDays(2);
        z.scene(10, 0, 1, 0, 0);
        z.scene(10, 0, 2, 0, 0);
        z.put(0, 0);
        z.put(1, 1);
        due("a night and then a day", z.trade(0, 1), STATE);
        rowDue(z, 1, 1);
    }

    private static void better() {
        promise = "19 better";
        ShootingDays x = withDays(3);
        x.player(0, 100, 0);
        x.scene(10, 0, 0, 0, 1);
        x.scene(20, 1, 0, 0, 1);
        x.put(0, 0);
        x.put(1, 2);
        due("cost(0)", x.cost(0), 300);
        due("better()", x.better(), 2);
        // The first move that is good: scene 0 to day 1 (200), then scene 0 to day 2 (100).
        rowDue(x, 0);
        rowDue(x, 1);
        rowDue(x, 2, 0, 1);
        due("cost(0)", x.cost(0), 100);
        due("better() again", x.better(), 0);

        // Neither may be moved into the other's day or the one between, which leaves a trade.
        ShootingDays y = new ShootingDays();
        y.day(100, 0);
        y.day(100, 0);
        y.day(100, 0);
        y.player(0, 100, 0);
        y.scene(100, 0, 0, 0, 1);
        y.scene(100, 0, 0, 0, 2);
        y.scene(100, 0, 0, 0, 1);
        for (int s = 0; s < 3; s++) {
            y.put(s, s);
        }
        due("better()", y.better(), 1);
        rowDue(y, 0, 1);
        rowDue(y, 1, 0);
        rowDue(y, 2, 2);
        due("cost(0)", y.cost(0), 200);

        // A row of 5 takes none in, and as cheap is not cheaper.
        ShootingDays z = withDays(2);
        z.player(0, 10, 0);
        for (int s = 0; s < 6; s++) {
            z.scene(5, 0, 0, 0, s == 0 ? 3 : 1);
            z.put(s, s == 5 ? 0 : 1);
        }
        due("better()", z.better(), 0);
        rowDue(z, 0, 5);
        z.take(4);
        due("better()", z.better(), 1);
        due("about(5, 5)", z.about(5, 5), 1);
    }

    private static void betterLimit() {
        promise = "19 better, 20 times at most";
        int[][] players = {{386, 0}, {152, 1}, {744, 0}, {662, 2}, {749, 2}, {115, 3}, {764, 0}, {52, 2}};
        int[] rents = {87, 867, 680, 464, 299, 120, 501, 987};
        // minutes, place, players, day
        int[][] scenes = {
            {106, 2, 129, 0}, {24, 4, 193, 7}, {176, 0, 42, 0}, {35, 4, 35, 0}, {168, 7, 206, 1},
            {142, 6, 133, 2}, {185, 4, 160, 2}, {123, 0, 37, 4}, {6, 7, 52, 6}, {157, 1, 27, 0},
            {138, 5, 9, 3}, {110, 3, 138, 1}, {42, 1, 175, 1}, {141, 6, 178, 6}, {105, 7, 59, 4},
            {61, 7, 61, 2}, {102, 5, 52, 1}, {85, 7, 10, 0}, {5, 7, 1, 2}, {98, 5, 246, 7},
        };
        ShootingDays x = withDays(8);
        for (int i = 0; i < 8; i++) {
            x.player(i, players[i][0], players[i][1]);
            x.rent(i, rents[i]);
        }
        for (int s = 0; s < 20; s++) {
            x.scene(scenes[s][0], scenes[s][1], 0, 0, scenes[s][2]);
            due("put(" + s + ")", x.put(s, scenes[s][3]), 0);
        }
        int all = 0;
        int times = 20;
        for (int i = 0; i < 10 && times == 20; i++) {
            times = x.better();
            all += times;
        }
        due("all of them", all, 102);
        due("better() at last", x.better(), 0);
    }

    private static void order() {
        promise = "20 order";
        ShootingDays x = withDays(4);
        x.player(0, 100, 0);
        x.scene(10, 0, 0, 0, 1);
        x.scene(10, 0, 0, 0, 0);
        x.scene(10, 0, 0, 0, 1);
        x.put(0, 0);
        x.put(1, 1);
        x.put(2, 3);
        due("cost(0)", x.cost(0), 400);
        // Rows by their days: 0 3 1 2 is the first order in which player 0 is held for two days.
        due("order()", x.order(), 200);
        rowDue(x, 0, 0);
        rowDue(x, 1, 2);
        rowDue(x, 2, 1);
        rowDue(x, 3);
        due("order() again", x.order(), 200);
        rowDue(x, 0, 0);
        rowDue(x, 1, 2);

        ShootingDays y = withDays(3);
        y.player(0, 100, 0);
        y.scene(10, 0, 1, 0, 1);
        y.scene(10, 0, 2, 0, 0);
        y.scene(10, 0, 0, 0, 1);
        y.put(0, 0);
        y.put(1, 1);
        y.put(2, 2);
        // 0 2 1 keeps; 1 0 2 would have a night ahead of a day.
        due("order()", y.order(), 200);
        rowDue(y, 1, 2);
        rowDue(y, 2, 1);

        ShootingDays w = new ShootingDays();
        w.day(100, 0);
        w.day(50 + 10, 0);
        w.day(100, 0);
        w.player(0, 100, 0);
        w.scene(100, 0, 0, 0, 1);
        w.scene(10, 0, 0, 0, 0);
        w.scene(100, 0, 0, 0, 1);
        w.put(0, 0);
        w.put(1, 1);
        w.put(2, 2);
        due("order(), most forbids the others", w.order(), 300);
        rowDue(w, 1, 1);

        due("no days", new ShootingDays().order(), STATE);
        due("1 day", withDays(1).order(), 0);
        due("6 days", withDays(6).order(), 0);
        due("7 days", withDays(7).order(), STATE);
        ShootingDays six = withDays(6);
        six.player(0, 1, 0);
        six.scene(10, 0, 0, 0, 1);
        six.scene(10, 0, 0, 0, 1);
        six.scene(10, 0, 0, 0, 0);
        six.put(0, 0);
        six.put(1, 5);
        six.put(2, 1);
        six.ahead(1, 0);
        due("a refusal", six.about(0, 7), 0);
        due("6 days", six.order(), 2);
        rowDue(six, 0, 0);
        rowDue(six, 1, 1);
        rowDue(six, 2, 2);
    }

    private static void rain() {
        promise = "21 rain";
        ShootingDays x = new ShootingDays();
        x.day(100, 100);
        x.day(900, 0);
        x.scene(30, 0, 0, 1, 0);
        x.scene(30, 0, 0, 0, 0);
        x.scene(30, 0, 0, 1, 0);
        x.scene(40, 0, 0, 0, 0);
        x.scene(10, 0, 0, 1, 0);
        x.scene(35, 0, 0, 0, 0);
        x.scene(30, 0, 0, 0, 0);
        x.scene(10, 0, 0, 0, 0);
        x.put(0, 0);
        x.put(1, 0);
        x.put(2, 0);
        x.put(7, 1);
        // 0 and 2 go; 3 comes by 30 + 40, 5 has no room any more, 6 just has it.
        due("rain(0)", x.rain(0), 16 * 2 + 2);
        rowDue(x, 0, 1, 3, 6);
        due("0 is in no row", x.about(0, 5), NONE);
        due("2 is in no row", x.about(2, 5), NONE);
        due("4 is out", x.about(4, 5), NONE);
        due("7 stays where it was", x.about(7, 5), 1);
        due("rain(0) again", x.rain(0), 0);
        due("rain(2)", x.rain(2), NONE);
        due("rain(-1)", x.rain(-1), NONE);
        due("rain(1): 5 comes", x.rain(1), 1);
        due("about(5, 5)", x.about(5, 5), 1);
        ShootingDays y = withDays(1);
        for (int s = 0; s < 10; s++) {
            y.scene(5, 0, 0, s < 5 ? 1 : 0, 0);
        }
        y.scene(5, 0, 0, 0, 0);
        for (int s = 0; s < 5; s++) {
            y.put(s, 0);
        }
        due("5 go, 5 come, and then the row has 5", y.rain(0), 16 * 5 + 5);
        rowDue(y, 0, 5, 6, 7, 8, 9);
    }

    private static void change() {
        promise = "22 change";
        ShootingDays x = withDays(2);
        x.scene(100, 0, 1, 0, 0);
        x.scene(50, 0, 0, 0, 0);
        x.put(0, 0);
        x.put(1, 0);
        due("just as much", x.change(0, 150, 100), 0);
        due("less most", x.change(0, 149, 100), STATE);
        due("less sun", x.change(0, 150, 99), STATE);
        due("NONE ahead of BAD", x.change(2, 0, 0), NONE);
        due("change(-1, ..)", x.change(-1, 100, 100), NONE);
        due("most 59, BAD ahead of STATE", x.change(0, 59, 100), BAD);
        due("most 901", x.change(0, 901, 100), BAD);
        due("sun -1", x.change(0, 900, -1), BAD);
        due("sun 901", x.change(0, 900, 901), BAD);
        x.scene(5, 0, 0, 0, 0);
        due("refusals change nothing", x.may(2, 0), 1);
        due("change(0, 155, 100)", x.change(0, 155, 100), 0);
        due("may(2, 0)", x.may(2, 0), 0);
        due("change(1, 60, 0)", x.change(1, 60, 0), 0);
        x.take(0);
        due("the sun is 0", x.may(0, 1), 1);
    }

    private static void count() {
        promise = "23 count";
        ShootingDays x = withDays(2);
        for (int s = 0; s < 4; s++) {
            x.scene(10, 0, 0, 0, 0);
        }
        x.ahead(0, 1);
        x.ahead(0, 2);
        x.ahead(1, 3);
        x.put(2, 0);
        x.put(3, 1);
        due("count(0)", x.count(0), 4);
        due("count(1)", x.count(1), 2);
        due("count(2)", x.count(2), 2);
        due("count(3)", x.count(3), 2);
        due("count(4)", x.count(4), NONE);
        due("count(-1)", x.count(-1), NONE);
        x.take(2);
        due("count(2)", x.count(2), 1);
    }

    private static void rules() {
        promise = "the rules of a day";
        ShootingDays x = withDays(3);
        x.scene(10, 0, 2, 0, 0);
        x.scene(10, 0, 1, 0, 0);
        x.scene(10, 0, 0, 0, 0);
        x.put(0, 1);
        due("a day behind a night", x.may(1, 2), 1);
        due("a day in the night's own row", x.may(1, 1), 0);
        due("a day ahead of a night", x.may(1, 0), 0);
        due("any light behind a night", x.may(2, 2), 0);
        x.take(0);
        x.put(1, 2);
        due("a night ahead of a day", x.may(0, 1), 1);
        due("with a day between", x.may(0, 0), 0);
        ShootingDays y = withDays(3);
        for (int s = 0; s < 3; s++) {
            y.scene(10, 0, 0, 0, 0);
        }
        y.ahead(0, 1);
        y.ahead(1, 2);
        y.put(1, 1);
        due("0 later than 1", y.may(0, 2), 1);
        due("0 in the row of 1", y.may(0, 1), 0);
        due("0 earlier than 1", y.may(0, 0), 0);
        due("2 earlier than 1", y.may(2, 0), 1);
        due("2 later than 1", y.may(2, 2), 0);
        y.take(1);
        y.put(2, 0);
        due("0 later than 2: 1 is in no row", y.may(0, 1), 0);
    }
}
