/**
 * Each refused call of each promise: which exception, which one where several apply, and that it
 * changes nothing (Due looks at all that can be asked, and at what comes of later calls).
 */
public final class RefusedTest {
    private RefusedTest() {
    }

    public static void main(String[] args) {
        nothingThereYet();
        file();
        agree();
        inform();
        change();
        withdraw();
        use();
        complain();
        launch();
        register();
        move();
        bury();
        die();
        near();
        claim();
        pass();
        filingOf();
        askedOfFilings();
        first();
        satelliteOf();
        piecesAndPaid();
        allThereMayBe();
        Due.end("RefusedTest");
    }

    /**
     * Day 100. Filings: 0 IN_USE by satellite 0, 1 NOTIFIED at its own risk, 2 FILED and not clear,
     * 3 SUSPENDED, 4 LAPSED, 5 FILED in another band. Satellites: 0 with 9 of fuel, 1 with none,
     * 2 a wreck, all in slot 50; 3 in a grave; 4 with 1 of fuel in slot 52.
     */
    private static Orbitregister all() {
        Orbitregister x = Made.filed(50, 10, 52, 10, 49, 10, 50, 1, 50, 1);
        x.file(5, 50, 3, 50);
        x.launch(0b00000110, 50, 9, true);
        x.launch(0b10000000, 50, 0, false);
        x.launch(0b00000001, 50, 9, true);
        x.launch(0b01000001, 50, 9, false);
        x.launch(0b00110000, 52, 1, false);
        x.agree(0, 1, 99);
        x.inform(0, false);
        x.inform(1, true);
        x.inform(3, true);
        x.pass(90);
        x.use(0, 0);
        x.use(3, 2);
        x.die(2);
        x.bury(3);
        x.withdraw(4);
        x.pass(10);
        return x;
    }

    private static Orbitregister empty() {
        return new Orbitregister();
    }

    private static void nothingThereYet() {
        Due.sentence("An IndexOutOfBoundsException is thrown if there is no such filing or satellite: none yet");
        Due.outOfBounds("agree", RefusedTest::empty, x -> x.agree(0, 1, 5));
        Due.outOfBounds("inform", RefusedTest::empty, x -> x.inform(0, true));
        Due.outOfBounds("change", RefusedTest::empty, x -> x.change(0, 0, 1));
        Due.outOfBounds("withdraw", RefusedTest::empty, x -> x.withdraw(0));
        Due.outOfBounds("use", RefusedTest::empty, x -> x.use(0, 0));
        Due.outOfBounds("complain", RefusedTest::empty, x -> x.complain(0, 0));
        Due.outOfBounds("register", RefusedTest::empty, x -> x.register(0, 0));
        Due.outOfBounds("move", RefusedTest::empty, x -> x.move(0, 1));
        Due.outOfBounds("bury", RefusedTest::empty, x -> x.bury(0));
        Due.outOfBounds("die", RefusedTest::empty, x -> x.die(0));
        Due.outOfBounds("near", RefusedTest::empty, x -> x.near(0, 1));
        Due.outOfBounds("claim", RefusedTest::empty, x -> x.claim(0, 1, true, true));
        Due.outOfBounds("filingOf", RefusedTest::empty, x -> x.filingOf(0, 0));
        Due.outOfBounds("stateAnew", RefusedTest::empty, x -> x.stateAnew(0));
        Due.outOfBounds("harm", RefusedTest::empty, x -> x.harm(0, 0));
        Due.outOfBounds("allowed", RefusedTest::empty, x -> x.allowed(0, 0));
        Due.outOfBounds("needs", RefusedTest::empty, x -> x.needs(0));
        Due.outOfBounds("bears", RefusedTest::empty, x -> x.bears(0));
        Due.outOfBounds("satelliteOf", RefusedTest::empty, x -> x.satelliteOf(0, 0));
        Due.outOfBounds("a filing, no satellite", () -> Made.filed(0, 1), x -> x.use(0, 0));
        Due.outOfBounds("a satellite, no filing", () -> Made.launched(0, true, 1), x -> x.use(0, 0));
        Due.outOfBounds("one filing, no other", () -> Made.filed(0, 1), x -> x.agree(0, 1, 5));
        Due.outOfBounds("one satellite, no other", () -> Made.launched(0, true, 1), x -> x.near(0, 1));
    }

    private static void file() {
        Due.sentence("Promise 2: file throws");
        Due.outOfBounds("land", 0, 7, RefusedTest::all, (x, land) -> x.file(land, 0, 0, 1));
        Due.outOfBounds("slot", 0, 359, RefusedTest::all, (x, slot) -> x.file(0, slot, 0, 1));
        Due.outOfBounds("band", 0, 4, RefusedTest::all, (x, band) -> x.file(0, 0, band, 1));
        Due.illegalArgument("power", 1, 50, RefusedTest::all, (x, power) -> x.file(0, 0, 0, power));
        Due.illegalState("there are 40", Made::forty, x -> x.file(7, 359, 4, 50));
        Due.outOfBounds("land, power", RefusedTest::all, x -> x.file(8, 0, 0, 51));
        Due.outOfBounds("slot, power", RefusedTest::all, x -> x.file(0, 360, 0, 0));
        Due.outOfBounds("band, power", RefusedTest::all, x -> x.file(0, 0, 5, 0));
        Due.outOfBounds("land, 40", Made::forty, x -> x.file(-1, 0, 0, 1));
        Due.outOfBounds("slot, 40", Made::forty, x -> x.file(0, -1, 0, 1));
        Due.outOfBounds("band, 40", Made::forty, x -> x.file(0, 0, -1, 1));
        Due.illegalArgument("power, 40", Made::forty, x -> x.file(0, 0, 0, 0));
        Due.outOfBounds("band, power, 40", Made::forty, x -> x.file(0, 0, 5, 51));
    }

    private static void agree() {
        Due.sentence("Promise 3: agree throws");
        Due.outOfBounds("filing", 0, 5, RefusedTest::all, (x, filing) -> x.agree(filing, 1, 5));
        Due.outOfBounds("other", 0, 5, RefusedTest::all, (x, other) -> x.agree(1, other, 5));
        Due.illegalArgument("both the same", RefusedTest::all, x -> x.agree(0, 0, 5));
        Due.illegalArgument("harm", 0, 600, RefusedTest::all, (x, harm) -> x.agree(0, 1, harm));
        Due.illegalState("filing LAPSED", RefusedTest::all, x -> x.agree(4, 0, 5));
        Due.illegalState("other LAPSED", RefusedTest::all, x -> x.agree(0, 4, 5));
        Due.illegalState("bands unlike", RefusedTest::all, x -> x.agree(0, 5, 5));
        Due.illegalState("LAPSED, bands unlike", RefusedTest::all, x -> x.agree(4, 5, 5));
        Due.outOfBounds("filing, harm", RefusedTest::all, x -> x.agree(6, 0, 601));
        Due.outOfBounds("other, harm", RefusedTest::all, x -> x.agree(0, 6, -1));
        Due.outOfBounds("filing, both the same", RefusedTest::all, x -> x.agree(6, 6, 5));
        Due.outOfBounds("filing, other LAPSED", RefusedTest::all, x -> x.agree(-1, 4, 5));
        Due.outOfBounds("other, filing LAPSED", RefusedTest::all, x -> x.agree(4, -1, 5));
        Due.illegalArgument("both the same, harm", RefusedTest::all, x -> x.agree(0, 0, 601));
        Due.illegalArgument("both the same, LAPSED", RefusedTest::all, x -> x.agree(4, 4, 5));
        Due.illegalArgument("harm, filing LAPSED", RefusedTest::all, x -> x.agree(4, 0, 601));
        Due.illegalArgument("harm, other LAPSED", RefusedTest::all, x -> x.agree(0, 4, -1));
        Due.illegalArgument("harm, bands unlike", RefusedTest::all, x -> x.agree(5, 0, 601));
    }

    private static void inform() {
        Due.sentence("Promise 4: inform throws");
        Due.outOfBounds("filing, at its own risk", 0, 5, RefusedTest::all, (x, filing) -> x.inform(filing, true));
        Due.outOfBounds("filing, without", 0, 5, RefusedTest::all, (x, filing) -> x.inform(filing, false));
        Due.illegalState("not clear, not at its own risk", RefusedTest::all, x -> x.inform(2, false));
        int[] notFiled = {0, 1, 3, 4};
        for (int filing : notFiled) {
            Due.illegalState("not FILED, at its own risk, " + filing, RefusedTest::all, x -> x.inform(filing, true));
            Due.illegalState("not FILED, without, " + filing, RefusedTest::all, x -> x.inform(filing, false));
        }
        Due.illegalState("LAPSED by days", () -> Made.let(all(), 600), x -> x.inform(5, true));
    }

    private static void change() {
        Due.sentence("Promise 5: change throws");
        Due.outOfBounds("filing", 0, 5, RefusedTest::all, (x, filing) -> x.change(filing, 0, 1));
        Due.outOfBounds("slot", 0, 359, RefusedTest::all, (x, slot) -> x.change(0, slot, 1));
        Due.illegalArgument("power", 1, 50, RefusedTest::all, (x, power) -> x.change(0, 0, power));
        Due.illegalState("LAPSED", RefusedTest::all, x -> x.change(4, 0, 1));
        Due.illegalState("LAPSED, as it was", RefusedTest::all, x -> x.change(4, 50, 1));
        Due.outOfBounds("filing, power", RefusedTest::all, x -> x.change(6, 0, 0));
        Due.outOfBounds("slot, power", RefusedTest::all, x -> x.change(0, 360, 51));
        Due.outOfBounds("slot, LAPSED", RefusedTest::all, x -> x.change(4, -1, 1));
        Due.illegalArgument("power, LAPSED", RefusedTest::all, x -> x.change(4, 0, 51));
        Due.outOfBounds("slot, power, LAPSED", RefusedTest::all, x -> x.change(4, 360, 0));
    }

    private static void withdraw() {
        Due.sentence("Promise 6: withdraw throws");
        Due.outOfBounds("filing", 0, 5, RefusedTest::all, (x, filing) -> x.withdraw(filing));
        Due.illegalState("withdrawn", RefusedTest::all, x -> x.withdraw(4));
        Due.illegalState("LAPSED by days", () -> Made.let(all(), 290), x -> x.withdraw(3));
    }

    private static void use() {
        Due.sentence("Promise 7: use throws");
        Due.outOfBounds("filing", 0, 5, RefusedTest::all, (x, filing) -> x.use(filing, 0));
        Due.outOfBounds("satellite", 0, 4, RefusedTest::all, (x, satellite) -> x.use(1, satellite));
        Due.illegalState("IN_USE", RefusedTest::all, x -> x.use(0, 0));
        Due.illegalState("IN_USE, another one", RefusedTest::all, x -> x.use(0, 1));
        Due.illegalState("FILED", RefusedTest::all, x -> x.use(5, 0));
        Due.illegalState("LAPSED", RefusedTest::all, x -> x.use(4, 0));
        Due.illegalState("NOTIFIED, not in its slot", RefusedTest::all, x -> x.use(1, 0));
        Due.illegalState("NOTIFIED, a wreck elsewhere", RefusedTest::all, x -> x.use(1, 2));
        Due.illegalState("NOTIFIED, in a grave", RefusedTest::all, x -> x.use(1, 3));
        Due.illegalState("SUSPENDED, not in its slot", RefusedTest::all, x -> x.use(3, 4));
        Due.illegalState("SUSPENDED, a wreck there", RefusedTest::all, x -> x.use(3, 2));
        Due.illegalState("SUSPENDED, in a grave", RefusedTest::all, x -> x.use(3, 3));
        Due.illegalState("NOTIFIED, 89 days", () -> lateComer(89), x -> x.use(1, 5));
        Due.illegalState("NOTIFIED, a wreck for 90 days", () -> deadComer(90), x -> x.use(1, 5));
        Due.outOfBounds("satellite, FILED", RefusedTest::all, x -> x.use(5, 5));
        Due.outOfBounds("filing, a wreck", RefusedTest::all, x -> x.use(6, 2));
        Due.outOfBounds("both", RefusedTest::all, x -> x.use(-1, -1));
        Due.answer("NOTIFIED, 90 days", lateComer(90).use(1, 5), 0);
    }

    private static Orbitregister lateComer(int days) {
        Orbitregister x = all();
        x.launch(1, 52, 3, false);
        x.pass(days);
        return x;
    }

    private static Orbitregister deadComer(int days) {
        Orbitregister x = lateComer(days);
        x.die(5);
        return x;
    }

    private static void complain() {
        Due.sentence("Promise 8: complain throws");
        Due.outOfBounds("filing", 0, 5, RefusedTest::all, (x, filing) -> x.complain(filing, 0));
        Due.outOfBounds("of", 0, 5, RefusedTest::all, (x, of) -> x.complain(0, of));
        for (int filing = 1; filing <= 5; filing++) {
            int other = filing;
            Due.illegalState("not IN_USE, " + filing, RefusedTest::all, x -> x.complain(other, 0));
            Due.illegalState("of one not IN_USE, " + filing, RefusedTest::all, x -> x.complain(0, other));
            Due.illegalState("both not, " + filing, RefusedTest::all, x -> x.complain(other, other));
            Due.outOfBounds("of, not IN_USE, " + filing, RefusedTest::all, x -> x.complain(other, 6));
            Due.outOfBounds("filing, of one not IN_USE, " + filing, RefusedTest::all, x -> x.complain(6, other));
        }
    }

    private static void launch() {
        Due.sentence("Promise 9: launch throws");
        Due.outOfBounds("slot", 0, 359, RefusedTest::all, (x, slot) -> x.launch(1, slot, 0, true));
        Due.illegalArgument("states", 1, 255, RefusedTest::all, (x, states) -> x.launch(states, 0, 0, true));
        Due.illegalArgument("fuel", 0, 20, RefusedTest::all, (x, fuel) -> x.launch(1, 0, fuel, false));
        Due.illegalState("there are 16", Made::sixteen, x -> x.launch(255, 359, 20, true));
        Due.outOfBounds("slot, states", RefusedTest::all, x -> x.launch(0, 360, 0, true));
        Due.outOfBounds("slot, fuel", RefusedTest::all, x -> x.launch(1, -1, 21, true));
        Due.outOfBounds("slot, 16", Made::sixteen, x -> x.launch(1, 360, 0, true));
        Due.illegalArgument("states, 16", Made::sixteen, x -> x.launch(256, 0, 0, true));
        Due.illegalArgument("fuel, 16", Made::sixteen, x -> x.launch(1, 0, -1, true));
        Due.outOfBounds("slot, fuel, 16", Made::sixteen, x -> x.launch(1, -1, -1, true));
    }

    private static void register() {
        Due.sentence("Promise 10: register throws");
        Due.outOfBounds("satellite", 0, 4, RefusedTest::all, (x, satellite) -> x.register(satellite, 0));
        Due.outOfBounds("land", 0, 7, RefusedTest::all, (x, land) -> x.register(0, land));
        // 33 and -31 are land 1 for a shift, which did launch it
        Due.outOfBounds("land 33", RefusedTest::all, x -> x.register(0, 33));
        Due.outOfBounds("land -31", RefusedTest::all, x -> x.register(0, -31));
        Due.outOfBounds("both", RefusedTest::all, x -> x.register(5, 8));
        Due.illegalState("below its states", RefusedTest::all, x -> x.register(0, 0));
        Due.illegalState("above its states", RefusedTest::all, x -> x.register(0, 3));
        Due.illegalState("between its states", RefusedTest::all, x -> x.register(3, 3));
        Due.illegalState("the last land", RefusedTest::all, x -> x.register(0, 7));
    }

    private static void move() {
        Due.sentence("Promise 11: move throws");
        Due.outOfBounds("satellite", 0, 4, RefusedTest::all, (x, satellite) -> x.move(satellite, 1));
        Due.outOfBounds("slot", 0, 359, RefusedTest::all, (x, slot) -> x.move(0, slot));
        Due.illegalState("in that slot", RefusedTest::all, x -> x.move(0, 50));
        Due.illegalState("no fuel", RefusedTest::all, x -> x.move(1, 51));
        Due.illegalState("no fuel, in that slot", RefusedTest::all, x -> x.move(1, 50));
        Due.illegalState("a wreck", RefusedTest::all, x -> x.move(2, 51));
        Due.illegalState("in a grave", RefusedTest::all, x -> x.move(3, 51));
        Due.outOfBounds("slot, no fuel", RefusedTest::all, x -> x.move(1, 360));
        Due.outOfBounds("slot, a wreck", RefusedTest::all, x -> x.move(2, -1));
        Due.outOfBounds("slot NONE, in a grave", RefusedTest::all, x -> x.move(3, Orbitregister.NONE));
        Due.outOfBounds("both", RefusedTest::all, x -> x.move(5, 360));
    }

    private static void bury() {
        Due.sentence("Promise 12: bury throws");
        Due.outOfBounds("satellite", 0, 4, RefusedTest::all, (x, satellite) -> x.bury(satellite));
        Due.illegalState("no fuel", RefusedTest::all, x -> x.bury(1));
        Due.illegalState("a wreck", RefusedTest::all, x -> x.bury(2));
        Due.illegalState("in a grave", RefusedTest::all, x -> x.bury(3));
        Due.illegalState("1 of fuel", RefusedTest::all, x -> x.bury(4));
    }

    private static void die() {
        Due.sentence("Promise 13: die throws");
        Due.outOfBounds("satellite", 0, 4, RefusedTest::all, (x, satellite) -> x.die(satellite));
        Due.illegalState("a wreck", RefusedTest::all, x -> x.die(2));
        Due.illegalState("in a grave", RefusedTest::all, x -> x.die(3));
        Due.illegalState("a wreck by a collision", () -> Made.collided(0), x -> x.die(1));
    }

    private static void near() {
        Due.sentence("Promise 14: near throws");
        Due.outOfBounds("satellite", 0, 4, RefusedTest::all, (x, satellite) -> x.near(satellite, 0));
        Due.outOfBounds("other", 0, 4, RefusedTest::all, (x, other) -> x.near(0, other));
        for (int satellite = 0; satellite < 5; satellite++) {
            int same = satellite;
            Due.illegalArgument("both the same, " + same, RefusedTest::all, x -> x.near(same, same));
            Due.outOfBounds("other, " + same, RefusedTest::all, x -> x.near(same, 5));
            Due.outOfBounds("satellite, " + same, RefusedTest::all, x -> x.near(-1, same));
        }
        Due.outOfBounds("both, the same", RefusedTest::all, x -> x.near(5, 5));
        Due.illegalState("the first in a grave", RefusedTest::all, x -> x.near(3, 0));
        Due.illegalState("the second in a grave", RefusedTest::all, x -> x.near(0, 3));
        Due.illegalState("a wreck and one in a grave", RefusedTest::all, x -> x.near(2, 3));
        Due.illegalState("unlike slots", RefusedTest::all, x -> x.near(0, 4));
        Due.illegalState("a wreck in an unlike slot", RefusedTest::all, x -> x.near(4, 2));
    }

    private static void claim() {
        Due.sentence("Promise 15: claim throws");
        Due.outOfBounds("satellite", 0, 4, RefusedTest::all, (x, satellite) -> x.claim(satellite, 1, true, true));
        Due.outOfBounds("satellite, not paid", 0, 4, RefusedTest::all, (x, s) -> x.claim(s, 1, false, false));
        Due.illegalArgument("amount", 1, 1000000, RefusedTest::all, (x, amount) -> x.claim(0, amount, true, true));
        Due.illegalArgument("amount, not paid", 1, 1000000, RefusedTest::all, (x, n) -> x.claim(0, n, false, false));
        Due.outOfBounds("satellite, amount", RefusedTest::all, x -> x.claim(5, 0, true, true));
        Due.outOfBounds("satellite, amount", RefusedTest::all, x -> x.claim(-1, 1000001, false, true));
    }

    private static void pass() {
        Due.sentence("Promise 16: pass throws");
        Due.illegalArgument("days", 1, 400, RefusedTest::all, (x, days) -> x.pass(days));
        Due.illegalState("day 5001", () -> Made.let(all(), 4900), x -> x.pass(1));
        Due.illegalState("day 5001", () -> Made.let(all(), 4501), x -> x.pass(400));
        Due.illegalState("day 5400", () -> Made.let(all(), 4900), x -> x.pass(400));
        Due.illegalArgument("days, day 5401", () -> Made.let(all(), 4900), x -> x.pass(401));
        Due.illegalArgument("no days, on day 5000", () -> Made.let(all(), 4900), x -> x.pass(0));
    }

    private static void filingOf() {
        Due.sentence("Promise 18: filingOf throws");
        for (int what = 0; what <= 8; what++) {
            int asked = what;
            Due.outOfBounds("filing", 0, 5, RefusedTest::all, (x, filing) -> x.filingOf(filing, asked));
        }
        for (int filing = 0; filing <= 5; filing++) {
            int of = filing;
            Due.illegalArgument("what", 0, 8, RefusedTest::all, (x, what) -> x.filingOf(of, what));
        }
        Due.outOfBounds("filing, what", RefusedTest::all, x -> x.filingOf(6, 9));
        Due.outOfBounds("filing, what", RefusedTest::all, x -> x.filingOf(-1, -1));
    }

    private static void askedOfFilings() {
        Due.sentence("Promises 19 to 23: stateAnew, harm, allowed, needs and bears throw");
        Due.outOfBounds("stateAnew", 0, 5, RefusedTest::all, (x, filing) -> x.stateAnew(filing));
        Due.outOfBounds("harm of", 0, 5, RefusedTest::all, (x, filing) -> x.harm(filing, 0));
        Due.outOfBounds("harm to", 0, 5, RefusedTest::all, (x, to) -> x.harm(0, to));
        Due.outOfBounds("harm of a lapsed one to", 0, 5, RefusedTest::all, (x, to) -> x.harm(4, to));
        Due.outOfBounds("harm of both", RefusedTest::all, x -> x.harm(6, 6));
        Due.outOfBounds("allowed of", 0, 5, RefusedTest::all, (x, filing) -> x.allowed(filing, 0));
        Due.outOfBounds("allowed to", 0, 5, RefusedTest::all, (x, to) -> x.allowed(0, to));
        Due.outOfBounds("allowed of a lapsed one to", 0, 5, RefusedTest::all, (x, to) -> x.allowed(4, to));
        Due.outOfBounds("allowed of both", RefusedTest::all, x -> x.allowed(6, 6));
        Due.outOfBounds("needs", 0, 5, RefusedTest::all, (x, filing) -> x.needs(filing));
        Due.outOfBounds("bears", 0, 5, RefusedTest::all, (x, filing) -> x.bears(filing));
    }

    private static void first() {
        Due.sentence("Promise 24: first throws");
        Due.outOfBounds("slot", 0, 359, RefusedTest::all, (x, slot) -> x.first(slot, 0));
        Due.outOfBounds("band", 0, 4, RefusedTest::all, (x, band) -> x.first(50, band));
        Due.outOfBounds("both", RefusedTest::all, x -> x.first(360, 5));
        Due.outOfBounds("slot of a new one", 0, 359, RefusedTest::empty, (x, slot) -> x.first(slot, 0));
        Due.outOfBounds("band of a new one", 0, 4, RefusedTest::empty, (x, band) -> x.first(0, band));
    }

    private static void satelliteOf() {
        Due.sentence("Promise 25: satelliteOf throws");
        for (int what = 0; what <= 6; what++) {
            int asked = what;
            Due.outOfBounds("satellite", 0, 4, RefusedTest::all, (x, satellite) -> x.satelliteOf(satellite, asked));
        }
        for (int satellite = 0; satellite <= 4; satellite++) {
            int of = satellite;
            Due.illegalArgument("what", 0, 6, RefusedTest::all, (x, what) -> x.satelliteOf(of, what));
        }
        Due.outOfBounds("satellite, what", RefusedTest::all, x -> x.satelliteOf(5, 7));
        Due.outOfBounds("satellite, what", RefusedTest::all, x -> x.satelliteOf(-1, -1));
    }

    private static void piecesAndPaid() {
        Due.sentence("Promises 26 and 27: pieces and paid throw");
        Due.outOfBounds("sector", 0, 35, RefusedTest::all, (x, sector) -> x.pieces(sector));
        Due.outOfBounds("sector of a new one", 0, 35, RefusedTest::empty, (x, sector) -> x.pieces(sector));
        Due.outOfBounds("land", 0, 7, RefusedTest::all, (x, land) -> x.paid(land));
        Due.outOfBounds("land of a new one", 0, 7, RefusedTest::empty, (x, land) -> x.paid(land));
    }

    private static void allThereMayBe() {
        Due.sentence("no such filing or satellite: as there are 40 and 16");
        Due.outOfBounds("agree", 0, 39, Made::forty, (x, filing) -> x.agree(filing, 0, 5));
        Due.outOfBounds("agree with", 0, 39, Made::forty, (x, other) -> x.agree(0, other, 5));
        Due.outOfBounds("inform", 0, 39, Made::forty, (x, filing) -> x.inform(filing, true));
        Due.outOfBounds("change", 0, 39, Made::forty, (x, filing) -> x.change(filing, 0, 1));
        Due.outOfBounds("withdraw", 0, 39, Made::forty, (x, filing) -> x.withdraw(filing));
        Due.outOfBounds("filingOf", 0, 39, Made::forty, (x, filing) -> x.filingOf(filing, 0));
        Due.outOfBounds("stateAnew", 0, 39, Made::forty, (x, filing) -> x.stateAnew(filing));
        Due.outOfBounds("harm", 0, 39, Made::forty, (x, filing) -> x.harm(filing, 39));
        Due.outOfBounds("harm to", 0, 39, Made::forty, (x, to) -> x.harm(39, to));
        Due.outOfBounds("allowed", 0, 39, Made::forty, (x, filing) -> x.allowed(filing, 39));
        Due.outOfBounds("allowed to", 0, 39, Made::forty, (x, to) -> x.allowed(39, to));
        Due.outOfBounds("needs", 0, 39, Made::forty, (x, filing) -> x.needs(filing));
        Due.outOfBounds("bears", 0, 39, Made::forty, (x, filing) -> x.bears(filing));
        Due.outOfBounds("register", 0, 15, Made::sixteen, (x, satellite) -> x.register(satellite, 0));
        Due.outOfBounds("move", 0, 15, Made::sixteen, (x, satellite) -> x.move(satellite, 100));
        Due.outOfBounds("bury", 0, 15, Made::sixteen, (x, satellite) -> x.bury(satellite));
        Due.outOfBounds("die", 0, 15, Made::sixteen, (x, satellite) -> x.die(satellite));
        Due.outOfBounds("near", 0, 15, Made::sixteen, (x, satellite) -> x.near(satellite, 15));
        Due.outOfBounds("near to", 0, 15, Made::sixteen, (x, other) -> x.near(15, other));
        Due.outOfBounds("claim", 0, 15, Made::sixteen, (x, satellite) -> x.claim(satellite, 1, true, true));
        Due.outOfBounds("satelliteOf", 0, 15, Made::sixteen, (x, satellite) -> x.satelliteOf(satellite, 0));
    }
}
