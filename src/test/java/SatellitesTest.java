/** Promises 9 to 16: satellites and days. */
public final class SatellitesTest {
    private SatellitesTest() {
    }

    public static void main(String[] args) {
        launch();
        launchRefused();
        register();
        move();
        moveRefused();
        bury();
        die();
        nearAsOneCanDodge();
        nearAsBothCanDodge();
        collisions();
        nearRefused();
        claim();
        claimRefused();
        pass();
        lapses();
        passRefused();
        Due.end("SatellitesTest");
    }

    private static void launch() {
        Orbitregister x = new Orbitregister();
        x.pass(4);
        Due.answer("launch", x.launch(255, 359, 20, true), 0);
        Due.answer("launch", x.launch(128, 0, 0, false), 1);
        Due.answer("launch", x.launch(12, 0, 0, false), 2);
        x.pass(3);
        int[] first = {255, 0, Orbitregister.ACTIVE, 359, 20, 3, 0};
        int[] second = {128, 7, Orbitregister.ACTIVE, 0, 0, 3, 0};
        for (int what = 0; what <= 6; what++) {
            Due.answer("satelliteOf(0, " + what + ")", x.satelliteOf(0, what), first[what]);
            Due.answer("satelliteOf(1, " + what + ")", x.satelliteOf(1, what), second[what]);
        }
        Due.answer("the lowest", x.satelliteOf(2, 1), 2);
    }

    private static Orbitregister withSixteen() {
        Orbitregister x = new Orbitregister();
        for (int i = 0; i < 16; i++) {
            x.launch(1 + i, i, i, i % 2 == 0);
        }
        return x;
    }

    private static Orbitregister withSixteenBuried() {
        Orbitregister x = withSixteen();
        x.bury(9);
        return x;
    }

    private static void launchRefused() {
        Due.answer("the 16th", withSixteen().satelliteOf(15, 0), 16);
        Due.outOfBounds("slot -1", Orbitregister::new, x -> x.launch(1, -1, 0, true));
        Due.outOfBounds("slot 360", Orbitregister::new, x -> x.launch(1, 360, 0, true));
        Due.illegalArgument("states 0", Orbitregister::new, x -> x.launch(0, 0, 0, true));
        Due.illegalArgument("states 256", Orbitregister::new, x -> x.launch(256, 0, 0, true));
        Due.illegalArgument("states -1", Orbitregister::new, x -> x.launch(-1, 0, 0, true));
        Due.illegalArgument("fuel -1", Orbitregister::new, x -> x.launch(1, 0, -1, true));
        Due.illegalArgument("fuel 21", Orbitregister::new, x -> x.launch(1, 0, 21, true));
        Due.illegalState("the 17th", SatellitesTest::withSixteen, x -> x.launch(1, 0, 0, true));
        Due.illegalState("behind a buried one", SatellitesTest::withSixteenBuried, x -> x.launch(1, 0, 0, true));
        Due.outOfBounds("slot ahead of states", Orbitregister::new, x -> x.launch(0, 360, 0, true));
        Due.illegalArgument("fuel ahead of 16", SatellitesTest::withSixteen, x -> x.launch(1, 0, 21, true));
    }

    private static Orbitregister withOne() {
        Orbitregister x = new Orbitregister();
        x.launch(0b10010100, 10, 3, false);
        return x;
    }

    private static void register() {
        Orbitregister x = withOne();
        Due.answer("at first the lowest", x.register(0, 7), 2);
        Due.answer("by another one", x.satelliteOf(0, 1), 7);
        Due.answer("again", x.register(0, 4), 7);
        Due.answer("by the same", x.register(0, 4), 4);
        Due.answer("the states stay", x.satelliteOf(0, 0), 0b10010100);
        x.die(0);
        Due.answer("a wreck", x.register(0, 2), 4);
        Due.answer("by it", x.satelliteOf(0, 1), 2);
        Due.outOfBounds("satellite -1", SatellitesTest::withOne, y -> y.register(-1, 2));
        Due.outOfBounds("satellite 1", SatellitesTest::withOne, y -> y.register(1, 2));
        Due.outOfBounds("land -1", SatellitesTest::withOne, y -> y.register(0, -1));
        Due.outOfBounds("land 8", SatellitesTest::withOne, y -> y.register(0, 8));
        Due.outOfBounds("land 34", SatellitesTest::withOne, y -> y.register(0, 34));
        Due.illegalState("land 0 did not launch it", SatellitesTest::withOne, y -> y.register(0, 0));
        Due.illegalState("land 3 did not launch it", SatellitesTest::withOne, y -> y.register(0, 3));
    }

    /** Satellite 0 with 2 of fuel serves filings 0 and 1, satellite 1 without serves filing 2. */
    private static Orbitregister withServed() {
        Orbitregister x = new Orbitregister();
        x.file(0, 40, 0, 1);
        x.file(0, 40, 1, 1);
        x.file(0, 40, 2, 1);
        x.launch(1, 40, 2, true);
        x.launch(1, 40, 0, true);
        for (int filing = 0; filing < 3; filing++) {
            x.inform(filing, false);
        }
        x.pass(95);
        x.use(0, 0);
        x.use(1, 0);
        x.use(2, 1);
        return x;
    }

    private static void move() {
        Orbitregister x = withServed();
        Due.answer("serves", x.satelliteOf(0, 6), 2);
        x.pass(2);
        Due.answer("move", x.move(0, 359), 2);
        int[] due = {1, 0, Orbitregister.ACTIVE, 359, 1, 0, 0};
        for (int what = 0; what <= 6; what++) {
            Due.answer("satelliteOf(0, " + what + ")", x.satelliteOf(0, what), due[what]);
        }
        Due.answer("suspended", x.filingOf(0, 5), Orbitregister.SUSPENDED);
        Due.answer("suspended", x.stateAnew(1), Orbitregister.SUSPENDED);
        Due.answer("from then", x.filingOf(1, 8), 397);
        Due.answer("that of the other one is not", x.filingOf(2, 5), Orbitregister.IN_USE);
        Due.answer("the last fuel", x.move(0, 0), 0);
        Due.answer("none left", x.satelliteOf(0, 4), 0);
    }

    private static Orbitregister withBuried() {
        Orbitregister x = withServed();
        x.bury(0);
        return x;
    }

    private static Orbitregister withDead() {
        Orbitregister x = withServed();
        x.die(0);
        return x;
    }

    private static Orbitregister withLittleFuel() {
        Orbitregister x = withServed();
        x.move(0, 41);
        return x;
    }

    private static void moveRefused() {
        Due.outOfBounds("satellite -1", SatellitesTest::withServed, x -> x.move(-1, 0));
        Due.outOfBounds("satellite 2", SatellitesTest::withServed, x -> x.move(2, 0));
        Due.outOfBounds("slot -1", SatellitesTest::withServed, x -> x.move(0, -1));
        Due.outOfBounds("slot 360", SatellitesTest::withServed, x -> x.move(0, 360));
        Due.illegalState("no fuel", SatellitesTest::withServed, x -> x.move(1, 0));
        Due.illegalState("in that slot", SatellitesTest::withServed, x -> x.move(0, 40));
        Due.illegalState("a wreck", SatellitesTest::withDead, x -> x.move(0, 0));
        Due.illegalState("in a grave", SatellitesTest::withBuried, x -> x.move(0, 0));
        Due.outOfBounds("slot ahead of no fuel", SatellitesTest::withServed, x -> x.move(1, 360));
    }

    private static void bury() {
        Orbitregister x = withServed();
        Due.answer("bury", x.bury(0), 2);
        int[] due = {1, 0, Orbitregister.GRAVE, Orbitregister.NONE, 0, Orbitregister.NONE, 0};
        for (int what = 0; what <= 6; what++) {
            Due.answer("satelliteOf(0, " + what + ")", x.satelliteOf(0, what), due[what]);
        }
        Due.answer("suspended", x.filingOf(0, 5), Orbitregister.SUSPENDED);
        Due.answer("suspended", x.stateAnew(1), Orbitregister.SUSPENDED);
        Due.answer("not that of the other one", x.stateAnew(2), Orbitregister.IN_USE);
        x.pass(9);
        Due.answer("in no slot for no days", x.satelliteOf(0, 5), Orbitregister.NONE);
        Due.outOfBounds("satellite -1", SatellitesTest::withServed, y -> y.bury(-1));
        Due.outOfBounds("satellite 2", SatellitesTest::withServed, y -> y.bury(2));
        Due.illegalState("no fuel", SatellitesTest::withServed, y -> y.bury(1));
        Due.illegalState("1 of fuel", SatellitesTest::withLittleFuel, y -> y.bury(0));
        Due.illegalState("a wreck", SatellitesTest::withDead, y -> y.bury(0));
        Due.illegalState("in a grave", SatellitesTest::withBuried, y -> y.bury(0));
    }

    private static void die() {
        Orbitregister x = withServed();
        Due.answer("die", x.die(0), 2);
        x.pass(5);
        int[] due = {1, 0, Orbitregister.WRECK, 40, 2, 100, 0};
        for (int what = 0; what <= 6; what++) {
            Due.answer("satelliteOf(0, " + what + ")", x.satelliteOf(0, what), due[what]);
        }
        Due.answer("suspended", x.filingOf(0, 5), Orbitregister.SUSPENDED);
        Due.answer("not that of the other one", x.stateAnew(2), Orbitregister.IN_USE);
        Due.answer("no pieces", x.pieces(4), 0);
        Due.answer("without fuel", x.die(1), 1);
        Due.outOfBounds("satellite -1", SatellitesTest::withServed, y -> y.die(-1));
        Due.outOfBounds("satellite 2", SatellitesTest::withServed, y -> y.die(2));
        Due.illegalState("a wreck", SatellitesTest::withDead, y -> y.die(0));
        Due.illegalState("in a grave", SatellitesTest::withBuried, y -> y.die(0));
    }

    private static void nearAsOneCanDodge() {
        Orbitregister x = withServed();
        Due.answer("the first has fuel", x.near(0, 1), Orbitregister.FIRST);
        Due.answer("it costs 1", x.satelliteOf(0, 4), 1);
        Due.answer("the second has fuel", x.near(1, 0), Orbitregister.SECOND);
        Due.answer("it costs 1", x.satelliteOf(0, 4), 0);
        Due.answer("it stays there", x.satelliteOf(0, 3), 40);
        Due.answer("for its days", x.satelliteOf(0, 5), 95);
        Due.answer("and serves", x.satelliteOf(0, 6), 2);
        Due.answer("none can", x.near(0, 1), Orbitregister.COLLIDED);

        Orbitregister y = new Orbitregister();
        y.launch(1, 40, 5, true);
        y.launch(1, 40, 5, true);
        y.die(1);
        Due.answer("a wreck can't", y.near(1, 0), Orbitregister.SECOND);
        Due.answer("its fuel stays", y.satelliteOf(1, 4), 5);
        Due.answer("of the other one it costs 1", y.satelliteOf(0, 4), 4);
        Due.answer("no pieces", y.pieces(4), 0);
    }

    private static Orbitregister withAutos(int... autos) {
        Orbitregister x = new Orbitregister();
        for (int i = 0; i < 4; i++) {
            boolean isAuto = false;
            for (int auto : autos) {
                isAuto |= auto == i;
            }
            x.launch(1, 77, 5, isAuto);
        }
        return x;
    }

    private static void nearAsBothCanDodge() {
        Orbitregister x = withAutos(1);
        Due.answer("none by itself, the higher dodges", x.near(0, 2), Orbitregister.SECOND);
        Due.answer("the higher first", x.near(2, 0), Orbitregister.FIRST);
        Due.answer("one by itself", x.near(1, 0), Orbitregister.FIRST);
        Due.answer("the lower by itself", x.near(1, 2), Orbitregister.SECOND);
        int[] fuels = {5, 4, 2, 5};
        for (int i = 0; i < 4; i++) {
            Due.answer("fuel", x.satelliteOf(i, 4), fuels[i]);
        }
        Orbitregister y = withAutos(0, 1, 2, 3);
        Due.answer("both dodge", y.near(0, 1), Orbitregister.BOTH);
        Due.answer("both dodge", y.near(2, 1), Orbitregister.BOTH);
        Due.answer("both odd", y.near(1, 3), Orbitregister.INTO);
        Due.answer("both even", y.near(2, 0), Orbitregister.INTO);
        int[] left = {3, 2, 3, 4};
        for (int i = 0; i < 4; i++) {
            Due.answer("fuel", y.satelliteOf(i, 4), left[i]);
            Due.answer("wreck", y.satelliteOf(i, 2), Orbitregister.WRECK);
            Due.answer("slot", y.satelliteOf(i, 3), 77);
        }
        Due.answer("pieces", y.pieces(7), 200);
    }

    private static void collisions() {
        Orbitregister x = withServed();
        x.near(0, 1);
        x.near(0, 1);
        x.pass(1);
        Due.answer("collide", x.near(1, 0), Orbitregister.COLLIDED);
        for (int filing = 0; filing < 3; filing++) {
            Due.answer("suspended", x.filingOf(filing, 5), Orbitregister.SUSPENDED);
            Due.answer("anew", x.stateAnew(filing), Orbitregister.SUSPENDED);
            Due.answer("until", x.filingOf(filing, 8), 396);
        }
        Due.answer("it serves none", x.satelliteOf(0, 6), 0);
        Due.answer("a wreck", x.satelliteOf(0, 2), Orbitregister.WRECK);
        Due.answer("a wreck", x.satelliteOf(1, 2), Orbitregister.WRECK);
        Due.answer("pieces", x.pieces(4), 100);
        Due.answer("wrecks collide again", x.near(0, 1), Orbitregister.COLLIDED);
        Due.answer("pieces", x.pieces(4), 200);
        x.pass(299);
        Due.answer("299 days behind the first", x.stateAnew(0), Orbitregister.SUSPENDED);
        x.pass(1);
        Due.answer("300 days behind the first", x.stateAnew(0), Orbitregister.LAPSED);

        Orbitregister y = new Orbitregister();
        int[] slots = {9, 10, 359};
        for (int i = 0; i < 3; i++) {
            y.launch(1, slots[i], 0, false);
            y.launch(1, slots[i], 0, true);
            Due.answer("without fuel", y.near(2 * i, 2 * i + 1), Orbitregister.COLLIDED);
        }
        Due.answer("slot 9", y.pieces(0), 100);
        Due.answer("slot 10", y.pieces(1), 100);
        Due.answer("slot 359", y.pieces(35), 100);
    }

    private static Orbitregister withGraves() {
        Orbitregister x = new Orbitregister();
        x.launch(1, 5, 2, true);
        x.launch(1, 5, 2, true);
        x.launch(1, 5, 2, true);
        x.launch(1, 6, 2, true);
        x.bury(1);
        x.bury(2);
        return x;
    }

    private static void nearRefused() {
        Due.outOfBounds("satellite -1", SatellitesTest::withGraves, x -> x.near(-1, 0));
        Due.outOfBounds("satellite 4", SatellitesTest::withGraves, x -> x.near(4, 0));
        Due.outOfBounds("other -1", SatellitesTest::withGraves, x -> x.near(0, -1));
        Due.outOfBounds("other 4", SatellitesTest::withGraves, x -> x.near(0, 4));
        Due.outOfBounds("none, twice", SatellitesTest::withGraves, x -> x.near(4, 4));
        Due.illegalArgument("both the same", SatellitesTest::withGraves, x -> x.near(0, 0));
        Due.illegalArgument("the same in a grave", SatellitesTest::withGraves, x -> x.near(1, 1));
        Due.illegalState("the second in a grave", SatellitesTest::withGraves, x -> x.near(0, 1));
        Due.illegalState("the first in a grave", SatellitesTest::withGraves, x -> x.near(1, 0));
        Due.illegalState("both in a grave", SatellitesTest::withGraves, x -> x.near(1, 2));
        Due.illegalState("unlike slots", SatellitesTest::withGraves, x -> x.near(0, 3));
    }

    private static void claim() {
        Orbitregister x = new Orbitregister();
        x.launch(0b01000101, 0, 2, false);
        x.launch(255, 0, 0, false);
        x.register(0, 6);
        Due.answer("rounded up", x.claim(0, 10, true, false), 12);
        Due.answer("by fault", x.claim(0, 9, false, true), 9);
        Due.answer("both", x.claim(0, 1, true, true), 3);
        Due.answer("neither", x.claim(0, 1000000, false, false), 0);
        for (int land = 0; land < 8; land++) {
            boolean isAmong = land == 0 || land == 2 || land == 6;
            Due.answer("paid by " + land, x.paid(land), isAmong ? 8 : 0);
        }
        x.bury(0);
        x.die(1);
        Due.answer("of one in a grave", x.claim(0, 1000000, true, false), 1000002);
        Due.answer("of a wreck", x.claim(1, 1000000, true, false), 1000000);
        Due.answer("together", x.paid(0), 8 + 333334 + 125000);
        Due.answer("land 1", x.paid(1), 125000);
        for (int i = 0; i < 480; i++) {
            x.claim(1, 999999, false, true);
        }
        Due.answer("it adds up", x.paid(7), 481L * 125000);
    }

    private static void claimRefused() {
        Due.outOfBounds("satellite -1", SatellitesTest::withOne, x -> x.claim(-1, 1, true, true));
        Due.outOfBounds("satellite 1", SatellitesTest::withOne, x -> x.claim(1, 1, true, true));
        Due.illegalArgument("amount 0", SatellitesTest::withOne, x -> x.claim(0, 0, true, true));
        Due.illegalArgument("amount 1000001", SatellitesTest::withOne, x -> x.claim(0, 1000001, true, true));
        Due.illegalArgument("amount -1, not paid", SatellitesTest::withOne, x -> x.claim(0, -1, false, false));
        Due.outOfBounds("satellite ahead of amount", SatellitesTest::withOne, x -> x.claim(1, 0, true, true));
    }

    private static Orbitregister withPieces(int slot) {
        Orbitregister x = new Orbitregister();
        x.launch(1, slot, 0, false);
        x.launch(1, slot, 0, false);
        x.near(0, 1);
        return x;
    }

    private static void pass() {
        Orbitregister x = withPieces(359);
        Due.answer("pass", x.pass(1), 1);
        Due.answer("pass", x.pass(48), 49);
        Due.answer("no drift yet", x.pieces(35), 100);
        x.pass(1);
        Due.answer("of the last", x.pieces(35), 90);
        Due.answer("to the first", x.pieces(0), 10);
        Due.answer("not further", x.pieces(1), 0);
        x.pass(49);
        Due.answer("not each day", x.pieces(35), 90);
        x.pass(1);
        Due.answer("again", x.pieces(35), 81);
        Due.answer("all at once", x.pieces(0), 18);
        Due.answer("rounded down", x.pieces(1), 1);

        Orbitregister y = withPieces(0);
        y.pass(400);
        int[] due = {45, 39, 14, 2, 0};
        for (int sector = 0; sector < 5; sector++) {
            Due.answer("8 drifts, sector " + sector, y.pieces(sector), due[sector]);
        }
    }

    private static Orbitregister onDay(int day) {
        Orbitregister x = new Orbitregister();
        for (int left = day; left > 0; left -= 400) {
            x.pass(Math.min(left, 400));
        }
        return x;
    }

    private static void lapses() {
        Orbitregister x = onDay(3);
        x.file(0, 10, 0, 1);
        x.file(0, 40, 0, 1);
        x.inform(1, false);
        x.launch(1, 10, 1, false);
        x.pass(400);
        x.pass(299);
        Due.answer("day 702", x.filingOf(0, 5), Orbitregister.FILED);
        Due.answer("day 702", x.filingOf(1, 5), Orbitregister.NOTIFIED);
        x.pass(1);
        for (int filing = 0; filing < 2; filing++) {
            Due.answer("day 703", x.filingOf(filing, 5), Orbitregister.LAPSED);
            Due.answer("day 703, anew", x.stateAnew(filing), Orbitregister.LAPSED);
            Due.answer("no day", x.filingOf(filing, 8), Orbitregister.NONE);
        }
        x.file(0, 10, 1, 1);
        x.inform(2, false);
        x.use(2, 0);
        x.pass(400);
        x.pass(400);
        Due.answer("in use for good", x.filingOf(2, 5), Orbitregister.IN_USE);
        x.move(0, 11);
        x.pass(299);
        Due.answer("suspended for 299", x.filingOf(2, 5), Orbitregister.SUSPENDED);
        x.pass(1);
        Due.answer("suspended for 300", x.filingOf(2, 5), Orbitregister.LAPSED);
        Due.answer("a gap is jumped over", jumpedOver().filingOf(0, 5), Orbitregister.LAPSED);
    }

    private static Orbitregister jumpedOver() {
        Orbitregister x = new Orbitregister();
        x.file(0, 10, 0, 1);
        x.pass(400);
        x.pass(400);
        return x;
    }

    private static void passRefused() {
        Due.answer("1", onDay(4999).pass(1), 5000);
        Due.answer("400", onDay(4600).pass(400), 5000);
        Due.illegalArgument("0", () -> onDay(9), x -> x.pass(0));
        Due.illegalArgument("-1", () -> onDay(9), x -> x.pass(-1));
        Due.illegalArgument("401", () -> onDay(9), x -> x.pass(401));
        Due.illegalArgument("most", () -> onDay(9), x -> x.pass(Integer.MAX_VALUE));
        Due.illegalState("day 5001", () -> onDay(5000), x -> x.pass(1));
        Due.illegalState("day 5001", () -> onDay(4601), x -> x.pass(400));
        Due.illegalArgument("days ahead of the day", () -> onDay(5000), x -> x.pass(401));
    }
}
