/** The document's terms of satellites, sectors, pieces and claims: each sentence at its edges. */
public final class TermsOfSatellitesTest {
    private static final int COLLIDED = Orbitregister.COLLIDED;
    private static final int FIRST = Orbitregister.FIRST;
    private static final int SECOND = Orbitregister.SECOND;
    private static final int BOTH = Orbitregister.BOTH;
    private static final int INTO = Orbitregister.INTO;

    private TermsOfSatellitesTest() {
    }

    public static void main(String[] args) {
        atMostSixteen();
        statesAndFuel();
        registeredByTheLowest();
        registeredByOneOfItsStates();
        moveCostsOne();
        graveCostsTwo();
        inNoSlotInAGrave();
        nearInOneSlot();
        nearWithoutGraves();
        dodgesWithFuel();
        dodgesIfActive();
        noneCanDodge();
        oneCanDodge();
        theHigherDodgesAlone();
        oneDodgesByItself();
        bothDodge();
        dodgesWithTheLastFuel();
        wrecksByACollision();
        wrecksCollideAgain();
        dodgingOnesStay();
        sectorsOfTenSlots();
        driftOnMultiplesOfFifty();
        driftOfManyDays();
        driftToTheFirst();
        driftAllAtOnce();
        driftRoundedDown();
        driftOnTheLastDay();
        driftKeepsAllPieces();
        paidOnTheGroundOrByFault();
        paidByThoseThatLaunched();
        paidRoundedUp();
        paidInWhateverState();
        daysInItsSlot();
        daysOfTheRegister();
        Due.end("TermsOfSatellitesTest");
    }

    private static void atMostSixteen() {
        Due.sentence("Satellites are numbered from 0, at most 16");
        Orbitregister x = new Orbitregister();
        for (int i = 0; i < 16; i++) {
            Due.answer("the satellite behind " + i, x.launch(255 - i, 359 - i, 20 - i, i % 2 == 0), i);
        }
        for (int i = 0; i < 16; i++) {
            Due.answer("its states", x.satelliteOf(i, 0), 255 - i);
            Due.answer("its slot", x.satelliteOf(i, 3), 359 - i);
            Due.answer("its fuel", x.satelliteOf(i, 4), 20 - i);
        }
        Due.illegalState("the 17th", Made::sixteen, y -> y.launch(1, 0, 0, true));
        Due.illegalState("the 17th as the last is a wreck", TermsOfSatellitesTest::sixteenOneDead,
                y -> y.launch(1, 0, 0, true));
    }

    private static Orbitregister sixteenOneDead() {
        Orbitregister x = Made.sixteen();
        x.die(15);
        return x;
    }

    private static void statesAndFuel() {
        Due.sentence("launched by some states, a set of lands, has fuel, 0 to 20");
        Orbitregister x = Made.filed(0, 1);
        x.launch(1, 0, 0, true);
        x.launch(255, 0, 20, false);
        Due.answer("the least set", x.satelliteOf(0, 0), 1);
        Due.answer("the least fuel", x.satelliteOf(0, 4), 0);
        Due.answer("all lands", x.satelliteOf(1, 0), 255);
        Due.answer("the most fuel", x.satelliteOf(1, 4), 20);
        Due.illegalArgument("states", 1, 255, Orbitregister::new, (y, states) -> y.launch(states, 0, 0, true));
        Due.illegalArgument("fuel", 0, 20, Orbitregister::new, (y, fuel) -> y.launch(1, 0, fuel, true));
    }

    private static void registeredByTheLowest() {
        Due.sentence("is registered by the lowest of its states at first");
        for (int land = 0; land < 8; land++) {
            Orbitregister x = new Orbitregister();
            x.launch(1 << land, 0, 0, false);
            x.launch(256 - (1 << land), 0, 0, false);
            Due.answer("land " + land + " alone", x.satelliteOf(0, 1), land);
            Due.answer("land " + land + " and those above", x.satelliteOf(1, 1), land);
        }
    }

    private static void registeredByOneOfItsStates() {
        Due.sentence("Registers a satellite by another one of its states");
        for (int land = 0; land < 8; land++) {
            int by = land;
            int others = 255 - (1 << land);
            Due.illegalState("by land " + land + " that did not launch it",
                    () -> launchedBy(others), x -> x.register(0, by));
            Orbitregister y = launchedBy(255);
            Due.answer("by land " + land, y.register(0, land), 0);
            Due.answer("it is by that", y.satelliteOf(0, 1), land);
            Due.answer("and no more by that", y.register(0, 0), land);
        }
    }

    private static Orbitregister launchedBy(int states) {
        Orbitregister x = new Orbitregister();
        x.launch(states, 0, 5, false);
        return x;
    }

    private static void moveCostsOne() {
        Due.sentence("To move it costs 1 of fuel");
        Orbitregister x = Made.launched(0, false, 20);
        for (int i = 1; i <= 20; i++) {
            Due.answer("move " + i, x.move(0, i), 0);
            Due.answer("it is there", x.satelliteOf(0, 3), i);
            Due.answer("left", x.satelliteOf(0, 4), 20 - i);
        }
        Due.illegalState("the 21st", () -> Made.launched(0, false, 0), y -> y.move(0, 1));
        Orbitregister z = Made.launched(0, false, 1);
        Due.answer("to the slot beside it, over the end", z.move(0, 359), 0);
        Due.answer("none left", z.satelliteOf(0, 4), 0);
        Due.illegalState("to the slot in which it is", () -> Made.launched(359, false, 1), y -> y.move(0, 359));
    }

    private static void graveCostsTwo() {
        Due.sentence("to bring it to a grave costs 2");
        Orbitregister x = Made.launched(0, false, 2, 3);
        Due.answer("with 2", x.bury(0), 0);
        Due.answer("0 left", x.satelliteOf(0, 4), 0);
        Due.answer("with 3", x.bury(1), 0);
        Due.answer("1 left", x.satelliteOf(1, 4), 1);
        Due.illegalState("with 1", () -> Made.launched(0, false, 1), y -> y.bury(0));
        Due.illegalState("with 0", () -> Made.launched(0, false, 0), y -> y.bury(0));
    }

    private static void inNoSlotInAGrave() {
        Due.sentence("there it is in no slot");
        Orbitregister x = Made.launched(0, false, 5);
        x.bury(0);
        Due.answer("GRAVE", x.satelliteOf(0, 2), Orbitregister.GRAVE);
        Due.answer("no slot", x.satelliteOf(0, 3), Orbitregister.NONE);
        Due.answer("no days", x.satelliteOf(0, 5), Orbitregister.NONE);
        Due.illegalState("not moved", TermsOfSatellitesTest::buried, y -> y.move(0, 9));
        Due.illegalState("not buried again", TermsOfSatellitesTest::buried, y -> y.bury(0));
        Due.illegalState("no wreck", TermsOfSatellitesTest::buried, y -> y.die(0));
    }

    /** Satellites 0 and 1 in graves, 2 and 3 in slot 0, 4 in slot 359, 5 in slot 1. */
    private static Orbitregister buried() {
        Orbitregister x = Made.launched(0, false, 6, 6, 6, 6, 6, 6);
        x.bury(0);
        x.bury(1);
        x.move(4, 359);
        x.move(5, 1);
        return x;
    }

    private static void nearInOneSlot() {
        Due.sentence("If two satellites of one slot come near");
        Due.answer("in one slot", buried().near(2, 3), SECOND);
        Due.illegalState("in slots 0 and 359", TermsOfSatellitesTest::buried, x -> x.near(2, 4));
        Due.illegalState("in slots 1 and 0", TermsOfSatellitesTest::buried, x -> x.near(5, 3));
        Orbitregister y = buried();
        y.move(4, 0);
        Due.answer("come to it", y.near(4, 2), FIRST);
    }

    private static void nearWithoutGraves() {
        Due.sentence("of which none is in a grave");
        Due.illegalState("the first is", TermsOfSatellitesTest::buried, x -> x.near(0, 2));
        Due.illegalState("the second is", TermsOfSatellitesTest::buried, x -> x.near(2, 0));
        Due.illegalState("both are", TermsOfSatellitesTest::buried, x -> x.near(0, 1));
    }

    private static void dodgesWithFuel() {
        Due.sentence("those that have fuel can dodge, which costs 1");
        Orbitregister x = Made.launched(0, false, 1, 0);
        Due.answer("with 1", x.near(0, 1), FIRST);
        Due.answer("0 left", x.satelliteOf(0, 4), 0);
        Due.answer("with 0", x.near(0, 1), COLLIDED);
        Due.answer("0 left", x.satelliteOf(0, 4), 0);
        Orbitregister y = Made.launched(0, false, 20, 0);
        for (int i = 1; i <= 20; i++) {
            Due.answer("dodge " + i, y.near(1, 0), SECOND);
            Due.answer("left", y.satelliteOf(0, 4), 20 - i);
        }
        Due.answer("the 21st", y.near(1, 0), COLLIDED);
    }

    private static void dodgesIfActive() {
        Due.sentence("those that are ACTIVE can dodge");
        Orbitregister x = Made.launched(0, true, 5, 5);
        x.die(0);
        Due.answer("the first is a wreck", x.near(0, 1), SECOND);
        Due.answer("the second is a wreck", x.near(1, 0), FIRST);
        Due.answer("its fuel stays", x.satelliteOf(0, 4), 5);
        Due.answer("that of the other one doesn't", x.satelliteOf(1, 4), 3);
        x.die(1);
        Due.answer("both are, with fuel", x.near(1, 0), COLLIDED);
        Due.answer("it stays", x.satelliteOf(1, 4), 3);
    }

    private static void noneCanDodge() {
        Due.sentence("If none can, they collide");
        for (int autos = 0; autos < 4; autos++) {
            Due.answer("without fuel", pair(0, 0, autos).near(0, 1), COLLIDED);
            Due.answer("without fuel", pair(0, 0, autos).near(1, 0), COLLIDED);
            Orbitregister x = pair(7, 0, autos);
            x.die(0);
            Due.answer("a wreck and one without fuel", x.near(0, 1), COLLIDED);
            Due.answer("a wreck", x.satelliteOf(1, 2), Orbitregister.WRECK);
            Due.answer("pieces", x.pieces(0), 100);
        }
    }

    /** Two in slot 0 with these fuels; bit 0 of autos tells whether 0 dodges by itself, bit 1 whether 1 does. */
    private static Orbitregister pair(int fuel, int other, int autos) {
        Orbitregister x = new Orbitregister();
        x.launch(1, 0, fuel, autos % 2 == 1);
        x.launch(1, 0, other, autos / 2 == 1);
        return x;
    }

    private static void oneCanDodge() {
        Due.sentence("If one can, it dodges");
        for (int autos = 0; autos < 4; autos++) {
            Due.answer("the first", pair(1, 0, autos).near(0, 1), FIRST);
            Due.answer("the first", pair(0, 1, autos).near(1, 0), FIRST);
            Due.answer("the second", pair(1, 0, autos).near(1, 0), SECOND);
            Due.answer("the second", pair(0, 1, autos).near(0, 1), SECOND);
            Orbitregister x = pair(1, 0, autos);
            x.near(0, 1);
            Due.answer("no pieces", x.pieces(0), 0);
            Due.answer("ACTIVE", x.satelliteOf(0, 2), Orbitregister.ACTIVE);
            Due.answer("ACTIVE", x.satelliteOf(1, 2), Orbitregister.ACTIVE);
        }
    }

    private static void theHigherDodgesAlone() {
        Due.sentence("If both can, that with the higher number dodges alone");
        for (int first = 0; first < 16; first++) {
            for (int second = 0; second < 16; second++) {
                if (first != second) {
                    Orbitregister x = sixteenInASlot(false);
                    Due.answer(first + " and " + second, x.near(first, second), first > second ? FIRST : SECOND);
                    Due.answer("the lower", x.satelliteOf(Math.min(first, second), 4), 1);
                    Due.answer("the higher", x.satelliteOf(Math.max(first, second), 4), 0);
                }
            }
        }
    }

    private static Orbitregister sixteenInASlot(boolean isAuto) {
        return Made.launched(359, isAuto, 1, 1, 1, 1, 1, 1, 1, 1, 1, 1, 1, 1, 1, 1, 1, 1);
    }

    private static void oneDodgesByItself() {
        Due.sentence("unless both dodge by themselves: one of them alone does not do");
        for (int autos = 0; autos < 3; autos++) {
            Due.answer("the lower first", pair(5, 5, autos).near(0, 1), SECOND);
            Due.answer("the higher first", pair(5, 5, autos).near(1, 0), FIRST);
        }
        Due.answer("both do", pair(5, 5, 3).near(0, 1), BOTH);
        Due.answer("both do", pair(5, 5, 3).near(1, 0), BOTH);
    }

    private static void bothDodge() {
        Due.sentence("then both dodge, and collide if both numbers are even, or both odd");
        for (int first = 0; first < 16; first++) {
            for (int second = 0; second < 16; second++) {
                if (first != second) {
                    bothDodge(first, second);
                }
            }
        }
    }

    private static void bothDodge(int first, int second) {
        boolean isInto = first % 2 == second % 2;
        Orbitregister x = sixteenInASlot(true);
        Due.answer(first + " and " + second, x.near(first, second), isInto ? INTO : BOTH);
        Due.answer("pieces", x.pieces(35), isInto ? 100 : 0);
        int[] both = {first, second};
        for (int satellite : both) {
            Due.answer("its fuel", x.satelliteOf(satellite, 4), 0);
            Due.answer("what it is", x.satelliteOf(satellite, 2), isInto ? Orbitregister.WRECK : Orbitregister.ACTIVE);
            Due.answer("its slot", x.satelliteOf(satellite, 3), 359);
        }
    }

    private static void dodgesWithTheLastFuel() {
        Due.sentence("those without fuel don't dodge by themselves either");
        Orbitregister x = pair(1, 2, 3);
        Due.answer("both have fuel", x.near(0, 1), BOTH);
        Due.answer("the second has", x.near(0, 1), SECOND);
        Due.answer("none has", x.near(0, 1), COLLIDED);
    }

    private static void wrecksByACollision() {
        Due.sentence("Both are WRECKs by a collision, and there are 100 pieces more in the sector of the slot");
        Orbitregister x = Made.launched(25, false, 0, 0, 0);
        Due.answer("none yet", x.pieces(2), 0);
        x.near(2, 0);
        Due.answer("a wreck", x.satelliteOf(0, 2), Orbitregister.WRECK);
        Due.answer("a wreck", x.satelliteOf(2, 2), Orbitregister.WRECK);
        Due.answer("not the third", x.satelliteOf(1, 2), Orbitregister.ACTIVE);
        Due.answer("pieces", x.pieces(2), 100);
        Due.answer("none beside it", x.pieces(1) + x.pieces(3), 0);
    }

    private static void wrecksCollideAgain() {
        Due.sentence("100 pieces more, by each collision");
        Orbitregister x = Made.launched(25, false, 0, 0, 0);
        x.near(0, 1);
        Due.answer("two wrecks", x.near(0, 1), COLLIDED);
        Due.answer("pieces", x.pieces(2), 200);
        Due.answer("a wreck and one without fuel", x.near(2, 1), COLLIDED);
        Due.answer("pieces", x.pieces(2), 300);
        for (int i = 0; i < 490; i++) {
            x.near(1, 2);
        }
        Due.answer("pieces", x.pieces(2), 49300);
    }

    private static void dodgingOnesStay() {
        Due.sentence("those that dodge stay in their slot");
        Orbitregister x = pair(5, 5, 3);
        x.pass(33);
        x.near(0, 1);
        for (int satellite = 0; satellite < 2; satellite++) {
            Due.answer("slot", x.satelliteOf(satellite, 3), 0);
            Due.answer("days", x.satelliteOf(satellite, 5), 33);
        }
        Orbitregister y = pair(5, 5, 0);
        y.pass(33);
        y.near(0, 1);
        Due.answer("slot", y.satelliteOf(1, 3), 0);
        Due.answer("days", y.satelliteOf(1, 5), 33);
    }

    private static void sectorsOfTenSlots() {
        Due.sentence("The sectors 0 to 35 have ten slots each");
        for (int sector = 0; sector < 36; sector++) {
            Orbitregister first = Made.collided(10 * sector);
            Orbitregister last = Made.collided(10 * sector + 9);
            for (int other = 0; other < 36; other++) {
                int due = other == sector ? 100 : 0;
                Due.answer("its first slot", first.pieces(other), due);
                Due.answer("its last slot", last.pieces(other), due);
            }
        }
        Due.outOfBounds("sector", 0, 35, () -> Made.collided(0), (x, sector) -> x.pieces(sector));
    }

    private static void piecesAre(String what, Orbitregister x, int from, int... due) {
        for (int i = 0; i < due.length; i++) {
            int sector = (from + i) % 36;
            Due.answer(what + ", sector " + sector, x.pieces(sector), due[i]);
        }
    }

    private static void driftOnMultiplesOfFifty() {
        Due.sentence("As a day begins that is a multiple of 50, a tenth goes to the next sector");
        Orbitregister x = Made.collided(100);
        Made.let(x, 49);
        piecesAre("day 49", x, 9, 0, 100, 0, 0);
        x.pass(1);
        piecesAre("day 50", x, 9, 0, 90, 10, 0);
        x.pass(1);
        piecesAre("day 51", x, 9, 0, 90, 10, 0);
        x.pass(48);
        piecesAre("day 99", x, 9, 0, 90, 10, 0);
        x.pass(1);
        piecesAre("day 100", x, 9, 0, 81, 18, 1);
        Orbitregister y = Made.launched(100, false, 0, 0);
        y.pass(50);
        y.near(0, 1);
        piecesAre("on day 50, behind its beginning", y, 9, 0, 100, 0, 0);
        y.pass(49);
        piecesAre("day 99", y, 9, 0, 100, 0, 0);
        y.pass(1);
        piecesAre("day 100", y, 9, 0, 90, 10, 0);
        Orbitregister z = Made.collided(100);
        piecesAre("on day 0, behind its beginning", z, 9, 0, 100, 0, 0);
    }

    private static void driftOfManyDays() {
        Due.sentence("each day that is a multiple of 50 within one call of pass counts");
        Orbitregister x = Made.collided(100);
        x.pass(49);
        x.pass(2);
        piecesAre("over day 50", x, 10, 90, 10, 0);
        x.pass(49);
        piecesAre("just to day 100", x, 10, 81, 18, 1);
        Orbitregister y = Made.collided(100);
        y.pass(99);
        piecesAre("one of them", y, 10, 90, 10, 0);
        Orbitregister z = Made.collided(100);
        z.pass(100);
        piecesAre("two of them", z, 10, 81, 18, 1);
        Orbitregister once = Made.collided(355);
        once.pass(400);
        Orbitregister often = Made.collided(355);
        for (int day = 1; day <= 400; day++) {
            often.pass(1);
        }
        for (int sector = 0; sector < 36; sector++) {
            Due.answer("at once or day by day", once.pieces(sector), often.pieces(sector));
        }
    }

    private static void driftToTheFirst() {
        Due.sentence("that of the last one to the first");
        Orbitregister x = Made.collided(359);
        x.pass(49);
        piecesAre("day 49", x, 34, 0, 100, 0, 0);
        x.pass(1);
        piecesAre("day 50", x, 34, 0, 90, 10, 0);
        x.pass(50);
        piecesAre("day 100", x, 34, 0, 81, 18, 1);
        Orbitregister y = Made.collided(0);
        y.pass(50);
        piecesAre("none goes back", y, 34, 0, 0, 90, 10, 0);
        Orbitregister z = Made.collided(349);
        z.pass(100);
        piecesAre("to the last and over it", z, 34, 81, 18, 1, 0);
    }

    private static void driftAllAtOnce() {
        Due.sentence("all at once");
        Orbitregister x = Made.launched(0, false, 0, 0);
        for (int sector = 0; sector < 7; sector++) {
            x.launch(1, 10 * sector, 0, false);
            x.launch(1, 10 * sector, 0, false);
            x.near(2 + 2 * sector, 3 + 2 * sector);
        }
        x.near(0, 1);
        piecesAre("two in the first, one in the next six", x, 35, 0, 200, 100, 100, 100, 100, 100, 100, 0);
        x.pass(50);
        piecesAre("day 50", x, 35, 0, 180, 110, 100, 100, 100, 100, 100, 10);
        x.pass(50);
        piecesAre("day 100", x, 35, 0, 162, 117, 101, 100, 100, 100, 100, 19);
    }

    private static void driftRoundedDown() {
        Due.sentence("All divisions are rounded down: of 9 pieces none goes, of 19 one");
        int[] due = {
            100, 90, 81, 73, 66, 60, 54, 49, 45, 41, 37, 34, 31, 28, 26, 24, 22, 20, 18, 17,
            16, 15, 14, 13, 12, 11, 10, 9, 9, 9,
        };
        Orbitregister x = Made.collided(20);
        for (int i = 0; i < due.length; i++) {
            Due.answer("day " + 50 * i, x.pieces(2), due[i]);
            x.pass(50);
        }
    }

    private static void driftOnTheLastDay() {
        Due.sentence("day 5000 is the last that is a multiple of 50");
        Orbitregister x = Made.launched(0, false, 0, 0);
        Made.let(x, 4950);
        x.near(0, 1);
        x.pass(49);
        piecesAre("day 4999", x, 0, 100, 0);
        x.pass(1);
        piecesAre("day 5000", x, 0, 90, 10);
    }

    private static void driftKeepsAllPieces() {
        Due.sentence("what goes from one sector comes to the next one: none is lost in 5000 days");
        Orbitregister x = Made.launched(5, false, 0, 0);
        for (int i = 0; i < 30; i++) {
            x.near(0, 1);
        }
        for (int day = 0; day < Made.LAST_DAY; day += 250) {
            int sum = 0;
            for (int sector = 0; sector < 36 && day % 1000 == 0; sector++) {
                sum += x.pieces(sector);
            }
            Due.answer("day " + day, sum, day % 1000 == 0 ? 3000 : 0);
            x.pass(250);
        }
    }

    private static void paidOnTheGroundOrByFault() {
        Due.sentence("is paid, if it was done on the ground, or by their fault");
        Orbitregister x = launchedBy(1);
        Due.answer("neither", x.claim(0, 1000, false, false), 0);
        Due.answer("nothing is paid", x.paid(0), 0);
        Due.answer("on the ground", x.claim(0, 1000, true, false), 1000);
        Due.answer("paid", x.paid(0), 1000);
        Due.answer("by their fault", x.claim(0, 100, false, true), 100);
        Due.answer("paid", x.paid(0), 1100);
        Due.answer("both, once", x.claim(0, 10, true, true), 10);
        Due.answer("paid", x.paid(0), 1110);
        Due.unchanged("a claim that is not paid", () -> launchedBy(255), y -> y.claim(0, 9, false, false));
    }

    private static void paidByThoseThatLaunched() {
        Due.sentence("by the states that launched it");
        for (int states = 1; states < 256; states++) {
            Orbitregister x = launchedBy(states);
            int payers = Integer.bitCount(states);
            Due.answer("by states " + states, x.claim(0, 840, true, false), 840);
            for (int land = 0; land < 8; land++) {
                boolean isPayer = (states >> land) % 2 == 1;
                Due.answer("of states " + states + " land " + land, x.paid(land), isPayer ? 840 / payers : 0);
            }
        }
        Orbitregister y = launchedBy(0b10000001);
        y.register(0, 7);
        y.claim(0, 10, true, false);
        Due.answer("not by which it is registered alone", y.paid(0), 5);
    }

    private static void paidRoundedUp() {
        Due.sentence("by each the amount divided by how many they are, rounded up");
        for (int payers = 1; payers <= 8; payers++) {
            int states = (1 << payers) - 1;
            paid("1 of " + payers, states, 1, 1, payers);
            paid("just each 1", states, payers, 1, payers);
            paid("1 more", states, payers + 1, 2, payers);
            paid("1 less than each 2", states, 2 * payers - 1, payers == 1 ? 1 : 2, payers);
        }
        paid("the most of 1", 128, 1000000, 1000000, 1);
        paid("the most of 3", 0b1110, 1000000, 333334, 3);
        paid("the most of 7", 127, 1000000, 142858, 7);
        paid("the most of 8", 255, 1000000, 125000, 8);
        paid("1 less of 8", 255, 999999, 125000, 8);
    }

    private static void paid(String what, int states, int amount, int each, int payers) {
        Orbitregister x = launchedBy(states);
        Due.answer(what + ", together", x.claim(0, amount, false, true), each * payers);
        for (int land = 0; land < 8; land++) {
            Due.answer(what + ", land " + land, x.paid(land), (states >> land) % 2 == 1 ? each : 0);
        }
        Due.illegalArgument("amount", 1, 1000000, () -> launchedBy(states), (y, n) -> y.claim(0, n, true, true));
    }

    private static void paidInWhateverState() {
        Due.sentence("A claim for what a satellite has done: a wreck, or one in a grave, too");
        Orbitregister x = Made.launched(0, false, 2, 2);
        x.bury(0);
        x.die(1);
        Due.answer("in a grave", x.claim(0, 5, true, false), 5);
        Due.answer("a wreck", x.claim(1, 6, false, true), 6);
        Due.answer("paid", x.paid(0), 11);
    }

    private static void daysInItsSlot() {
        Due.sentence("how many days it has been in its slot");
        Orbitregister x = Made.launched(0, false, 5);
        Due.answer("launched today", x.satelliteOf(0, 5), 0);
        x.pass(1);
        Due.answer("yesterday", x.satelliteOf(0, 5), 1);
        x.move(0, 359);
        Due.answer("come today", x.satelliteOf(0, 5), 0);
        x.pass(400);
        Due.answer("400 days ago", x.satelliteOf(0, 5), 400);
        x.die(0);
        x.pass(1);
        Due.answer("a wreck, too", x.satelliteOf(0, 5), 401);
        Due.answer("in its slot", x.satelliteOf(0, 3), 359);
        Orbitregister y = Made.launched(0, false, 0);
        Made.let(y, Made.LAST_DAY);
        Due.answer("all days", y.satelliteOf(0, 5), 5000);
    }

    private static void daysOfTheRegister() {
        Due.sentence("Days are counted from 0, at most 5000");
        Due.answer("the first day", new Orbitregister().day(), 0);
        Due.answer("the last day", Made.onDay(Made.LAST_DAY).day(), 5000);
        Due.answer("1 to it", Made.onDay(4999).pass(1), 5000);
        Due.answer("400 to it", Made.onDay(4600).pass(400), 5000);
        Due.illegalState("1 above it", () -> Made.onDay(5000), x -> x.pass(1));
        Due.illegalState("2 from the day before", () -> Made.onDay(4999), x -> x.pass(2));
        Due.illegalState("400 from day 4601", () -> Made.onDay(4601), x -> x.pass(400));
        Due.illegalArgument("days", 1, 400, () -> Made.onDay(7), (x, days) -> x.pass(days));
        Due.illegalArgument("days on the last day", 1, 400, () -> Made.onDay(5000), (x, days) -> x.pass(days));
    }
}
