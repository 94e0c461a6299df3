/**
 * Each promise with the last values inside its ranges: the first and the last of all, none yet, and
 * all there may be.
 */
public final class RangesTest {
    private RangesTest() {
    }

    public static void main(String[] args) {
        newObject();
        newObjectsApart();
        file();
        agree();
        agreeOfTheLast();
        informAll();
        change();
        withdrawAll();
        useOfTheLast();
        complainOfAll();
        launch();
        register();
        moveAndBury();
        dieAll();
        nearOfTheLast();
        claim();
        pass();
        passToTheLastDay();
        filingOf();
        filingOfLapsedDay();
        stateAnew();
        stateAnewAsTheLastCall();
        allowed();
        needs();
        first();
        firstOfForty();
        satelliteOf();
        askingChangesNothing();
        Due.end("RangesTest");
    }

    private static void newObject() {
        Due.sentence("Promise 1: No filings and satellites; the day 0");
        Orbitregister x = new Orbitregister();
        Due.answer("day", x.day(), 0);
        for (int sector = 0; sector < 36; sector++) {
            Due.answer("pieces", x.pieces(sector), 0);
        }
        for (int land = 0; land < 8; land++) {
            Due.answer("paid", x.paid(land), 0);
        }
        for (int band = 0; band < 5; band++) {
            Due.answer("first", x.first(0, band), Orbitregister.NONE);
            Due.answer("first", x.first(359, band), Orbitregister.NONE);
        }
        Due.answer("the first filing", x.file(0, 0, 0, 1), 0);
        Due.answer("the first date", x.filingOf(0, 4), 0);
        Due.answer("the first satellite", x.launch(1, 0, 0, false), 0);
        Due.answer("days pass without any", new Orbitregister().pass(400), 400);
    }

    private static void newObjectsApart() {
        Due.sentence("Promise 1: a new object has nothing of another one");
        Due.unchanged("another one", Orbitregister::new, x -> {
            Orbitregister other = Made.used(0, 1, 0, 50);
            other.agree(0, 1, 5);
            other.near(0, 1);
            other.claim(0, 5, true, true);
            other.pass(50);
        });
    }

    private static void file() {
        Due.sentence("Promise 2: the last values inside the ranges of file");
        Orbitregister x = new Orbitregister();
        int[][] told = {{0, 0, 0, 1}, {7, 359, 4, 50}, {0, 359, 0, 50}, {7, 0, 4, 1}};
        for (int i = 0; i < told.length; i++) {
            Due.answer("its number", x.file(told[i][0], told[i][1], told[i][2], told[i][3]), i);
            for (int what = 0; what < 4; what++) {
                Due.answer("what " + what, x.filingOf(i, what), told[i][what]);
            }
        }
    }

    private static void agree() {
        Due.sentence("Promise 3: harm 0 to 600; by how much it was allowed");
        Orbitregister x = Made.filed(0, 50, 0, 50);
        Due.answer("20 at first", x.agree(0, 1, 600), 20);
        Due.answer("the most", x.agree(1, 0, 0), 600);
        Due.answer("the least", x.agree(0, 1, 600), 0);
        Due.answer("all harm is allowed", x.needs(1), 0);
        Orbitregister y = Made.filed(0, 50, 100, 50);
        Due.answer("far from one another", y.agree(0, 1, 5), 20);
        Orbitregister z = Made.used(0, 1, 0, 1);
        z.die(0);
        Due.answer("SUSPENDED and IN_USE", z.agree(0, 1, 5), 20);
        z.file(0, 0, 0, 1);
        z.file(0, 0, 0, 1);
        z.inform(2, false);
        Due.answer("NOTIFIED and FILED", z.agree(3, 2, 5), 20);
    }

    private static void agreeOfTheLast() {
        Due.sentence("Promise 3: the last of 40 with each other one");
        Orbitregister x = Made.launched(0, false, 0);
        for (int i = 0; i < 40; i++) {
            x.file(0, 0, 4, 2);
        }
        Due.answer("too much for all", x.needs(39), 39);
        for (int other = 0; other < 39; other++) {
            Due.answer("with " + other, x.agree(39, other, 24 + other), 20);
            Due.answer("one less", x.needs(39), 38 - other);
        }
        for (int other = 0; other < 39; other++) {
            Due.answer("allowed to " + other, x.allowed(39, other), 24 + other);
            Due.answer("not of the last but one", x.allowed(38, other), other < 38 ? 20 : Orbitregister.NONE);
        }
    }

    private static void informAll() {
        Due.sentence("Promise 4: whether it is clear, for each of 40");
        Orbitregister x = new Orbitregister();
        for (int i = 0; i < 40; i++) {
            x.file(0, 9 * i % 360, 0, i % 2 == 0 ? 6 : 7);
        }
        for (int i = 0; i < 40; i++) {
            // the one before it, and for the last the first, is 9 slots apart: harm 18 or 21
            boolean isClear = i == 0 || i % 2 == 0;
            Due.answer("filing " + i, x.inform(i, true), isClear);
            Due.answer("told", x.filingOf(i, 6), isClear ? 0 : 1);
        }
    }

    private static void change() {
        Due.sentence("Promise 5: the last values inside the ranges of change");
        Orbitregister x = Made.forty();
        int[] filings = {0, 39};
        int[] slots = {0, 359};
        int[] powers = {1, 50};
        for (int filing : filings) {
            for (int slot : slots) {
                for (int power : powers) {
                    x.change(filing, slot, power);
                    Due.answer("slot", x.filingOf(filing, 1), slot);
                    Due.answer("power", x.filingOf(filing, 3), power);
                    Due.answer("land", x.filingOf(filing, 0), filing % 8);
                    Due.answer("band", x.filingOf(filing, 2), filing % 5);
                }
            }
        }
    }

    private static void withdrawAll() {
        Due.sentence("Promise 6: what it was, for each of 40");
        Orbitregister x = Made.forty();
        for (int i = 0; i < 40; i++) {
            Due.answer("filing " + i, x.withdraw(i), Orbitregister.FILED);
            Due.state("LAPSED", x, i, Orbitregister.LAPSED);
        }
        Due.answer("none is first", x.first(0, 0), Orbitregister.NONE);
    }

    private static void useOfTheLast() {
        Due.sentence("Promise 7: the last filing by the last satellite");
        Orbitregister x = Made.sixteen();
        for (int i = 0; i < 40; i++) {
            x.file(i % 8, 15, i / 8, 50);
            x.inform(i, true);
        }
        x.pass(90);
        for (int i = 39; i >= 0; i--) {
            Due.answer("bears", x.use(i, 15), 600 * (7 - i % 8));
            Due.state("IN_USE", x, i, Orbitregister.IN_USE);
            Due.answer("by the last", x.filingOf(i, 7), 15);
        }
        Due.answer("serves all", x.satelliteOf(15, 6), 40);
        Due.answer("the first serves none", x.satelliteOf(0, 6), 0);
        Orbitregister y = Made.used(0, 1);
        Due.answer("the first by the first", y.filingOf(0, 7), 0);
    }

    private static void complainOfAll() {
        Due.sentence("Promise 8: of each of 39 others");
        Orbitregister x = Made.launched(0, false, 0);
        x.pass(90);
        for (int i = 0; i < 40; i++) {
            x.file(0, 0, 0, 50);
            x.inform(i, true);
            x.use(i, 0);
        }
        for (int of = 1; of < 40; of++) {
            Due.answer("served", x.satelliteOf(0, 6), 41 - of);
            Due.answer("of " + of, x.complain(0, of), true);
            Due.answer("SUSPENDED", x.stateAnew(of), Orbitregister.SUSPENDED);
        }
        Due.answer("who complains", x.stateAnew(0), Orbitregister.IN_USE);
    }

    private static void launch() {
        Due.sentence("Promise 9: the last values inside the ranges of launch");
        Orbitregister x = new Orbitregister();
        int[][] told = {{1, 0, 0}, {255, 359, 20}, {128, 359, 0}, {1, 0, 20}};
        for (int i = 0; i < told.length; i++) {
            Due.answer("its number", x.launch(told[i][0], told[i][1], told[i][2], true), i);
            Due.answer("states", x.satelliteOf(i, 0), told[i][0]);
            Due.answer("slot", x.satelliteOf(i, 3), told[i][1]);
            Due.answer("fuel", x.satelliteOf(i, 4), told[i][2]);
        }
    }

    private static void register() {
        Due.sentence("Promise 10: by which it was, lands 0 and 7, satellites 0 and 15");
        Orbitregister x = new Orbitregister();
        for (int i = 0; i < 16; i++) {
            x.launch(0b10000001, 0, 9, true);
        }
        int[] satellites = {0, 15};
        for (int satellite : satellites) {
            Due.answer("land 0, by land 7", x.register(satellite, 7), 0);
            Due.answer("land 7, by land 0", x.register(satellite, 0), 7);
            Due.answer("land 0, by land 0", x.register(satellite, 0), 0);
            Due.answer("land 0", x.satelliteOf(satellite, 1), 0);
        }
        x.bury(15);
        Due.answer("in a grave", x.register(15, 7), 0);
        Due.answer("the other one is not", x.satelliteOf(14, 1), 0);
    }

    private static void moveAndBury() {
        Due.sentence("Promises 11 and 12: to the first and the last slot, the first and the last satellite");
        Orbitregister x = Made.sixteen();
        Due.answer("to the last slot", x.move(15, 359), 0);
        Due.answer("it is there", x.satelliteOf(15, 3), 359);
        Due.answer("to the first slot", x.move(15, 0), 0);
        Due.answer("it is there", x.satelliteOf(15, 3), 0);
        Due.answer("to a grave", x.bury(15), 0);
        Due.answer("13, 2 and 0 of fuel", x.satelliteOf(15, 4), 11);
        Due.answer("of the 3rd", x.bury(2), 0);
        Due.answer("no fuel", x.satelliteOf(2, 4), 0);
        Due.answer("1 of fuel", x.move(1, 0), 0);
    }

    private static void dieAll() {
        Due.sentence("Promise 13: each of 16");
        Orbitregister x = Made.sixteen();
        for (int i = 0; i < 16; i++) {
            Due.answer("serves none", x.die(i), 0);
            Due.answer("WRECK", x.satelliteOf(i, 2), Orbitregister.WRECK);
            Due.answer("in its slot", x.satelliteOf(i, 3), i);
            Due.answer("its fuel", x.satelliteOf(i, 4), i);
        }
    }

    private static void nearOfTheLast() {
        Due.sentence("Promise 14: the first and the last satellite, in the first and the last slot");
        int[] slots = {0, 359};
        for (int slot : slots) {
            Orbitregister x = Made.sixteen();
            x.move(15, slot);
            x.move(14, slot);
            Due.answer("14 and 15", x.near(14, 15), Orbitregister.SECOND);
            x.die(15);
            Due.answer("14 and a wreck", x.near(14, 15), Orbitregister.FIRST);
            x.die(14);
            Due.answer("two wrecks", x.near(15, 14), Orbitregister.COLLIDED);
            Due.answer("pieces", x.pieces(slot / 10), 100);
        }
    }

    private static void claim() {
        Due.sentence("Promise 15: amount 1 to 1000000; what is paid, together");
        Orbitregister x = new Orbitregister();
        x.launch(1, 0, 0, true);
        x.launch(255, 0, 0, true);
        Due.answer("the least of one", x.claim(0, 1, true, false), 1);
        Due.answer("the most of one", x.claim(0, 1000000, true, false), 1000000);
        Due.answer("the least of eight", x.claim(1, 1, true, false), 8);
        Due.answer("the most of eight", x.claim(1, 1000000, true, false), 1000000);
        Due.answer("the first land", x.paid(0), 1125002);
        Due.answer("the last land", x.paid(7), 125001);
        for (int i = 0; i < 500; i++) {
            x.claim(0, 1000000, true, true);
        }
        Due.answer("the first land, by 502 claims", x.paid(0), 501125002);
    }

    private static void pass() {
        Due.sentence("Promise 16: days 1 to 400; the day then");
        Orbitregister x = new Orbitregister();
        Due.answer("the least", x.pass(1), 1);
        Due.answer("the most", x.pass(400), 401);
        Due.answer("day", x.day(), 401);
    }

    private static void passToTheLastDay() {
        Due.sentence("Promise 16: 12 times 400 and 200 are just not above 5000");
        Orbitregister x = new Orbitregister();
        for (int i = 1; i <= 12; i++) {
            Due.answer("pass " + i, x.pass(400), 400 * i);
        }
        Due.answer("to the last day", x.pass(200), 5000);
        Due.answer("calls go on then", x.file(0, 0, 0, 1), 0);
        Due.answer("day", x.day(), 5000);
        Due.illegalState("201", () -> Made.onDay(4800), y -> y.pass(201));
    }

    private static void filingOf() {
        Due.sentence("Promise 18: what 0 to 8, of filings in each state");
        Orbitregister x = Made.used(10, 1, 10, 50, 10, 1);
        x.file(7, 359, 4, 50);
        x.pass(5);
        x.die(0);
        x.withdraw(2);
        x.file(6, 5, 3, 4);
        x.inform(4, false);
        int none = Orbitregister.NONE;
        int[][] due = {
            {0, 10, 0, 1, 0, Orbitregister.SUSPENDED, 0, none, 395},
            {0, 10, 0, 50, 1, Orbitregister.IN_USE, 1, 1, none},
            {0, 10, 0, 1, 2, Orbitregister.LAPSED, 0, none, none},
            {7, 359, 4, 50, 3, Orbitregister.FILED, 0, none, 790},
            {6, 5, 3, 4, 4, Orbitregister.NOTIFIED, 0, none, 795},
        };
        for (int filing = 0; filing < due.length; filing++) {
            for (int what = 0; what <= 8; what++) {
                Due.answer("filing " + filing + ", what " + what, x.filingOf(filing, what), due[filing][what]);
            }
        }
    }

    private static void filingOfLapsedDay() {
        Due.sentence("Promise 18: the day on which it is LAPSED as things are");
        Orbitregister x = Made.filed(0, 1);
        x.launch(1, 0, 3, false);
        Due.answer("FILED", x.filingOf(0, 8), 700);
        x.pass(90);
        Due.answer("90 days later", x.filingOf(0, 8), 700);
        x.inform(0, false);
        Due.answer("NOTIFIED", x.filingOf(0, 8), 700);
        x.use(0, 0);
        Due.answer("IN_USE", x.filingOf(0, 8), Orbitregister.NONE);
        x.move(0, 1);
        Due.answer("SUSPENDED", x.filingOf(0, 8), 390);
        x.pass(100);
        Due.answer("100 days later", x.filingOf(0, 8), 390);
        x.change(0, 1, 1);
        Due.answer("changed", x.filingOf(0, 8), 390);
        x.use(0, 0);
        Due.answer("IN_USE again", x.filingOf(0, 8), Orbitregister.NONE);
        x.change(0, 2, 1);
        Due.answer("SUSPENDED again", x.filingOf(0, 8), 490);
        x.withdraw(0);
        Due.answer("LAPSED", x.filingOf(0, 8), Orbitregister.NONE);
    }

    private static void stateAnew() {
        Due.sentence("Promise 19: found by examining all that was told, for each of 40");
        Orbitregister x = Made.sixteen();
        for (int i = 0; i < 40; i++) {
            x.file(i % 8, i % 4, i % 5, 50);
        }
        for (int i = 0; i < 40; i += 2) {
            x.inform(i, true);
        }
        x.pass(90);
        for (int i = 0; i < 40; i += 4) {
            x.use(i, 0);
        }
        for (int i = 3; i < 40; i += 4) {
            x.withdraw(i);
        }
        int[] due = {Orbitregister.IN_USE, Orbitregister.FILED, Orbitregister.NOTIFIED, Orbitregister.LAPSED};
        for (int i = 0; i < 40; i++) {
            Due.answer("filing " + i, x.stateAnew(i), due[i % 4]);
        }
        x.die(0);
        for (int i = 0; i < 40; i++) {
            int then = i % 4 == 0 ? Orbitregister.SUSPENDED : due[i % 4];
            Due.answer("filing " + i + " by a wreck", x.stateAnew(i), then);
            Due.state("it is that", x, i, then);
        }
    }

    private static void stateAnewAsTheLastCall() {
        Due.sentence("An object is used for at most 512 calls after it has been made: the last one");
        Orbitregister x = Made.filed(0, 1);
        x.inform(0, false);
        x.launch(1, 0, 0, false);
        x.pass(90);
        x.use(0, 0);
        int calls = 5;
        while (calls < 509) {
            x.change(0, 1, 1);
            x.change(0, 0, 1);
            x.use(0, 0);
            calls += 3;
        }
        Due.answer("calls", calls, 509);
        Due.answer("the 510th", x.stateAnew(0), Orbitregister.IN_USE);
        Due.answer("the 511th", x.change(0, 1, 1), true);
        Due.answer("the 512th", x.stateAnew(0), Orbitregister.SUSPENDED);
        Orbitregister y = Made.filed(0, 1);
        for (int i = 2; i < 511; i++) {
            y.change(0, i % 360, 1);
        }
        y.inform(0, false);
        Due.answer("the 512th of changes", y.stateAnew(0), Orbitregister.NOTIFIED);
    }

    private static void allowed() {
        Due.sentence("Promise 21: the harm, 20 in unlike bands, too; NONE if that is not ahead, or one is LAPSED");
        Orbitregister x = Made.filed(0, 1, 0, 1);
        x.file(0, 0, 4, 1);
        Due.answer("20", x.allowed(1, 0), 20);
        Due.answer("20 in unlike bands", x.allowed(2, 1), 20);
        Due.answer("not ahead", x.allowed(0, 1), Orbitregister.NONE);
        Due.answer("not ahead in unlike bands", x.allowed(1, 2), Orbitregister.NONE);
        Due.answer("itself", x.allowed(2, 2), Orbitregister.NONE);
        x.agree(0, 1, 0);
        Due.answer("0", x.allowed(1, 0), 0);
        Due.answer("not ahead, agreed", x.allowed(0, 1), Orbitregister.NONE);
        x.agree(0, 1, 600);
        Due.answer("600", x.allowed(1, 0), 600);
        x.withdraw(0);
        Due.answer("to one LAPSED", x.allowed(1, 0), Orbitregister.NONE);
        Due.answer("to one LAPSED in an unlike band", x.allowed(2, 0), Orbitregister.NONE);
        x.withdraw(2);
        Due.answer("of one LAPSED in an unlike band", x.allowed(2, 1), Orbitregister.NONE);
        Due.answer("both LAPSED", x.allowed(2, 0), Orbitregister.NONE);
    }

    private static void needs() {
        Due.sentence("Promise 22: how many that are ahead, 0 if it is clear");
        Orbitregister x = new Orbitregister();
        for (int i = 0; i < 40; i++) {
            x.file(0, 180, 0, 50);
        }
        for (int i = 0; i < 40; i++) {
            Due.answer("filing " + i, x.needs(i), i);
        }
        x.change(0, 180, 50);
        Due.answer("the first keeps its date", x.needs(0), 0);
        x.change(0, 200, 50);
        x.change(0, 180, 50);
        Due.answer("the first is the last", x.needs(0), 39);
        Due.answer("the last has one less", x.needs(39), 38);
        x.withdraw(5);
        Due.answer("one is LAPSED", x.needs(0), 38);
        Due.answer("of one LAPSED", x.needs(5), 0);
    }

    private static void first() {
        Due.sentence("Promise 24: of filings that are not LAPSED that with the lowest date; NONE without one");
        Orbitregister x = new Orbitregister();
        int[] slots = {0, 359};
        for (int slot : slots) {
            for (int band = 0; band < 5; band++) {
                Due.answer("none yet", x.first(slot, band), Orbitregister.NONE);
                int filing = x.file(0, slot, band, 1);
                Due.answer("slot " + slot + ", band " + band, x.first(slot, band), filing);
            }
        }
        Due.answer("the slot beside it", x.first(1, 0), Orbitregister.NONE);
        Due.answer("the slot beside it", x.first(358, 4), Orbitregister.NONE);
        x.withdraw(0);
        Due.answer("LAPSED", x.first(0, 0), Orbitregister.NONE);
        Made.let(x, 700);
        Due.answer("LAPSED by days", x.first(359, 4), Orbitregister.NONE);
        Orbitregister y = Made.used(0, 1);
        Due.answer("IN_USE", y.first(0, 0), 0);
        y.die(0);
        Due.answer("SUSPENDED", y.first(0, 0), 0);
        y.change(0, 359, 1);
        Due.answer("gone to another slot", y.first(0, 0), Orbitregister.NONE);
        Due.answer("there", y.first(359, 0), 0);
    }

    private static void firstOfForty() {
        Due.sentence("Promise 24: who is first of 40 in one slot and band");
        Orbitregister x = new Orbitregister();
        for (int i = 0; i < 40; i++) {
            x.file(0, 7, 2, 1 + i);
        }
        for (int i = 0; i < 39; i++) {
            Due.answer("the lowest date", x.first(7, 2), i);
            if (i % 2 == 0) {
                x.withdraw(i);
            } else {
                x.change(i, 7, 2 + i);
            }
        }
        Due.answer("the last one", x.first(7, 2), 39);
        x.withdraw(39);
        Due.answer("the first that lost its date", x.first(7, 2), 1);
    }

    private static void satelliteOf() {
        Due.sentence("Promise 25: what 0 to 6, of satellites in each state");
        Orbitregister x = Made.used(359, 1, 5, 1, 9, 1);
        x.launch(0b11000000, 0, 20, true);
        x.pass(400);
        x.bury(1);
        x.die(2);
        int none = Orbitregister.NONE;
        int[][] due = {
            {1, 0, Orbitregister.ACTIVE, 359, 9, 490, 1},
            {1, 0, Orbitregister.GRAVE, none, 7, none, 0},
            {1, 0, Orbitregister.WRECK, 9, 9, 490, 0},
            {0b11000000, 6, Orbitregister.ACTIVE, 0, 20, 400, 0},
        };
        for (int satellite = 0; satellite < due.length; satellite++) {
            for (int what = 0; what <= 6; what++) {
                int got = x.satelliteOf(satellite, what);
                Due.answer("satellite " + satellite + ", what " + what, got, due[satellite][what]);
            }
        }
    }

    private static void askingChangesNothing() {
        Due.sentence("Nothing is promised beyond the answers and state changes: what is asked changes nothing");
        Due.unchanged("asking", () -> Made.used(0, 1, 5, 50, 9, 9), x -> {
            x.day();
            for (int filing = 0; filing < 3; filing++) {
                x.filingOf(filing, 8);
                x.stateAnew(filing);
                x.needs(filing);
                x.bears(filing);
                x.satelliteOf(filing, 6);
                for (int to = 0; to < 3; to++) {
                    x.harm(filing, to);
                    x.allowed(filing, to);
                }
            }
            x.first(0, 0);
            x.pieces(0);
            x.paid(0);
        });
    }
}
