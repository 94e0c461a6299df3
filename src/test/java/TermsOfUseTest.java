/** The document's terms of lapses, use, complaints and what is borne: each sentence at its edges. */
public final class TermsOfUseTest {
    private TermsOfUseTest() {
    }

    public static void main(String[] args) {
        lapsedIfFiled();
        lapsedIfNotified();
        lapsedByTheDayOfFiling();
        notLapsedInUse();
        notLapsedBySevenHundredIfSuspended();
        lapsedIfSuspended();
        suspendedAnew();
        asTheDayBegins();
        lapsesOnTheLastDay();
        lapsesInLongPasses();
        lapsedIfWithdrawn();
        usedByNinetyDays();
        ninetyDaysSinceItCame();
        ninetyDaysForTheNotice();
        takenUpAgainAtOnce();
        usedInItsSlot();
        usedByWhicheverStates();
        servesSeveral();
        servesAll();
        suspendedAsItGoes();
        suspendedOnlyWhatItServes();
        suspendedByACollisionOfBoth();
        notSuspendedByOtherSatellites();
        notSuspendedTwice();
        notSuspendedAsItDodges();
        complainsOfOneInUse();
        complainsOfOneAtRisk();
        complainsOfOneBehind();
        complainsOfTooMuchHarm();
        bearsThoseBehind();
        bearsThoseInUse();
        bearsAllTogether();
        bearsInAnyState();
        Due.end("TermsOfUseTest");
    }

    private static void lapsesOn(String what, Orbitregister x, int filing, int day) {
        int before = x.filingOf(filing, 5);
        Due.answer(what + ", the day on which it is LAPSED", x.filingOf(filing, 8), day);
        Made.let(x, day - 1 - x.day());
        Due.state(what + ", the day before", x, filing, before);
        Due.answer(what + ", told the day before", x.filingOf(filing, 8), day);
        x.pass(1);
        Due.state(what + ", the day itself", x, filing, Orbitregister.LAPSED);
        Due.answer(what + ", no day then", x.filingOf(filing, 8), Orbitregister.NONE);
        x.pass(1);
        Due.state(what + ", the day behind", x, filing, Orbitregister.LAPSED);
    }

    private static void lapsedIfFiled() {
        Due.sentence("LAPSED, if it is FILED 700 days behind the day on which it was told");
        lapsesOn("told on day 0", Made.filed(0, 1), 0, 700);
        int[] days = {1, 13, 400};
        for (int day : days) {
            Orbitregister x = Made.onDay(day);
            x.file(0, 0, 0, 1);
            lapsesOn("told on day " + day, x, 0, day + 700);
        }
    }

    private static void lapsedIfNotified() {
        Due.sentence("LAPSED, if it is NOTIFIED 700 days behind the day on which it was told");
        Orbitregister x = Made.onDay(13);
        x.file(0, 0, 0, 1);
        x.inform(0, false);
        lapsesOn("notified at once", x, 0, 713);
        Orbitregister y = Made.filed(0, 1, 0, 50);
        y.inform(1, true);
        lapsesOn("at its own risk", y, 1, 700);
    }

    private static void lapsedByTheDayOfFiling() {
        Due.sentence("the 700 days begin as it is told, not as it is notified or changed");
        Orbitregister x = Made.filed(0, 1);
        Made.let(x, 699);
        x.inform(0, false);
        lapsesOn("notified on day 699", x, 0, 700);
        Orbitregister y = Made.filed(0, 1, 11, 1);
        Made.let(y, 699);
        y.change(0, 0, 2);
        lapsesOn("a new date on day 699", y, 0, 700);
    }

    private static void notLapsedInUse() {
        Due.sentence("one that is IN_USE is not LAPSED by days");
        Orbitregister x = Made.filed(0, 1);
        x.launch(1, 0, 1, false);
        x.inform(0, false);
        Made.let(x, 699);
        x.use(0, 0);
        Due.answer("no day", x.filingOf(0, 8), Orbitregister.NONE);
        x.pass(1);
        Due.state("day 700", x, 0, Orbitregister.IN_USE);
        Made.let(x, Made.LAST_DAY - 700);
        Due.state("day 5000", x, 0, Orbitregister.IN_USE);
        Due.answer("no day", x.filingOf(0, 8), Orbitregister.NONE);
    }

    private static void notLapsedBySevenHundredIfSuspended() {
        Due.sentence("of one that is SUSPENDED the 700 days are not counted");
        Orbitregister x = Made.used(0, 1);
        Made.let(x, 609);
        x.die(0);
        x.pass(1);
        Due.state("700 days behind its filing", x, 0, Orbitregister.SUSPENDED);
        lapsesOn("suspended on day 699", x, 0, 999);
    }

    private static void lapsedIfSuspended() {
        Due.sentence("if it is SUSPENDED 300 days behind the day on which that began");
        Orbitregister changed = Made.let(Made.used(0, 1), 7);
        changed.change(0, 1, 1);
        lapsesOn("by a change", changed, 0, 397);
        Orbitregister complained = Made.let(Made.used(0, 1, 0, 50), 7);
        complained.complain(0, 1);
        lapsesOn("by a complaint", complained, 1, 397);
        Orbitregister moved = Made.let(Made.used(0, 1), 7);
        moved.move(0, 1);
        lapsesOn("by a move", moved, 0, 397);
        Orbitregister buried = Made.let(Made.used(0, 1), 7);
        buried.bury(0);
        lapsesOn("by a grave", buried, 0, 397);
        Orbitregister dead = Made.let(Made.used(0, 1), 7);
        dead.die(0);
        lapsesOn("by a wreck", dead, 0, 397);
        lapsesOn("by a collision", suspendedByCollision(false), 0, 397);
        lapsesOn("by dodging into one another", suspendedByCollision(true), 0, 397);
    }

    /** Filing 0 is suspended on day 97, as two without fuel, or that dodge by themselves, collide. */
    private static Orbitregister suspendedByCollision(boolean isAuto) {
        int fuel = isAuto ? 1 : 0;
        Orbitregister x = Made.filed(5, 1);
        x.inform(0, false);
        x.launch(1, 5, fuel, isAuto);
        x.launch(1, 6, fuel, isAuto);
        x.launch(1, 5, fuel, isAuto);
        x.pass(97);
        x.use(0, 0);
        Due.answer("they come near", x.near(2, 0), isAuto ? Orbitregister.INTO : Orbitregister.COLLIDED);
        return x;
    }

    private static void suspendedAnew() {
        Due.sentence("taken up again in time, it is SUSPENDED for 300 days from the next day on which that begins");
        Orbitregister x = Made.used(0, 1);
        x.launch(1, 0, 5, false);
        x.die(0);
        x.pass(299);
        Due.answer("taken up again on the last day", x.use(0, 1), 0);
        x.pass(1);
        Due.state("300 days behind the first one", x, 0, Orbitregister.IN_USE);
        x.pass(10);
        x.move(1, 7);
        lapsesOn("the second one", x, 0, 700);
    }

    private static void asTheDayBegins() {
        Due.sentence("as the day that is so many behind begins");
        Due.answer("informed on day 699", Made.let(Made.filed(0, 1), 699).inform(0, false), true);
        Due.illegalState("on day 700", () -> Made.let(Made.filed(0, 1), 700), x -> x.inform(0, false));
        Due.answer("used on day 699", waiting(699).use(0, 0), 0);
        Due.illegalState("used on day 700", () -> waiting(700), x -> x.use(0, 0));
        Due.answer("taken up on day 299", suspendedFor(299).use(0, 1), 0);
        Due.illegalState("taken up on day 300", () -> suspendedFor(300), x -> x.use(0, 1));
        Due.answer("withdrawn on day 299", suspendedFor(299).withdraw(0), Orbitregister.SUSPENDED);
        Due.illegalState("withdrawn on day 300", () -> suspendedFor(300), x -> x.withdraw(0));
    }

    private static Orbitregister waiting(int days) {
        Orbitregister x = Made.filed(0, 1);
        x.launch(1, 0, 1, false);
        x.inform(0, false);
        return Made.let(x, days);
    }

    private static Orbitregister suspendedFor(int days) {
        Orbitregister x = Made.used(0, 1);
        x.launch(1, 0, 1, false);
        x.die(0);
        return Made.let(x, days);
    }

    private static void lapsesOnTheLastDay() {
        Due.sentence("day 5000 is the last one on which filings are LAPSED");
        Orbitregister x = Made.onDay(4300);
        x.file(0, 0, 0, 1);
        x.pass(1);
        x.file(0, 0, 0, 1);
        Made.let(x, 699);
        Due.state("told on day 4300", x, 0, Orbitregister.LAPSED);
        Due.state("told on day 4301", x, 1, Orbitregister.FILED);
        Due.answer("a day that does not come", x.filingOf(1, 8), 5001);
        x.file(0, 0, 0, 1);
        Due.answer("told on day 5000", x.filingOf(2, 8), 5700);
        Orbitregister y = Made.let(Made.used(0, 1, 50, 1), 4610);
        y.die(0);
        y.pass(1);
        y.die(1);
        y.pass(299);
        Due.state("suspended on day 4700", y, 0, Orbitregister.LAPSED);
        Due.state("suspended on day 4701", y, 1, Orbitregister.SUSPENDED);
    }

    private static void lapsesInLongPasses() {
        Due.sentence("a day that comes and goes within one call of pass is not left out");
        Orbitregister x = Made.filed(0, 1);
        Made.let(x, 350);
        x.pass(349);
        Due.state("up to the day before", x, 0, Orbitregister.FILED);
        x.pass(400);
        Due.state("over the day", x, 0, Orbitregister.LAPSED);
        Orbitregister y = suspendedFor(1);
        y.pass(400);
        Due.state("over the day of one suspended", y, 0, Orbitregister.LAPSED);
        Orbitregister z = suspendedFor(1);
        z.pass(299);
        Due.state("just on it", z, 0, Orbitregister.LAPSED);
    }

    private static void lapsedIfWithdrawn() {
        Due.sentence("it is LAPSED if it is withdrawn");
        Orbitregister x = Made.used(0, 1, 50, 1);
        x.file(0, 100, 0, 1);
        x.file(0, 150, 0, 1);
        x.inform(3, false);
        x.die(1);
        int[] were = {Orbitregister.IN_USE, Orbitregister.SUSPENDED, Orbitregister.FILED, Orbitregister.NOTIFIED};
        for (int filing = 0; filing < 4; filing++) {
            Due.answer("it was", x.withdraw(filing), were[filing]);
            Due.state("withdrawn", x, filing, Orbitregister.LAPSED);
            Due.answer("on no day", x.filingOf(filing, 8), Orbitregister.NONE);
        }
    }

    private static void usedByNinetyDays() {
        Due.sentence("brought into use by a satellite that has been in its slot for 90 days or more");
        Due.illegalState("89 days", () -> waiting(89), x -> x.use(0, 0));
        Due.answer("90 days", waiting(90).use(0, 0), 0);
        Due.answer("91 days", waiting(91).use(0, 0), 0);
        Due.illegalState("0 days", () -> waiting(0), x -> x.use(0, 0));
        Orbitregister x = waiting(90);
        x.use(0, 0);
        Due.state("90 days", x, 0, Orbitregister.IN_USE);
    }

    private static void ninetyDaysSinceItCame() {
        Due.sentence("the 90 days begin as the satellite comes to its slot");
        Due.illegalState("89 days behind the move", () -> comeFor(89), x -> x.use(0, 0));
        Due.answer("90 days behind the move", comeFor(90).use(0, 0), 0);
        Due.illegalState("89 days behind the return", () -> returnedFor(89), x -> x.use(0, 0));
        Due.answer("90 days behind the return", returnedFor(90).use(0, 0), 0);
        Due.illegalState("89 days behind the launch", () -> launchedFor(89), x -> x.use(0, 0));
        Due.answer("90 days behind the launch", launchedFor(90).use(0, 0), 0);
    }

    private static Orbitregister comeFor(int days) {
        Orbitregister x = Made.filed(359, 1);
        x.inform(0, false);
        x.launch(1, 0, 1, false);
        x.pass(200);
        x.move(0, 359);
        return Made.let(x, days);
    }

    private static Orbitregister returnedFor(int days) {
        Orbitregister x = Made.filed(359, 1);
        x.inform(0, false);
        x.launch(1, 359, 2, false);
        x.pass(89);
        x.move(0, 0);
        x.move(0, 359);
        return Made.let(x, days);
    }

    private static Orbitregister launchedFor(int days) {
        Orbitregister x = Made.filed(359, 1);
        x.inform(0, false);
        x.pass(200);
        x.launch(1, 359, 2, false);
        return Made.let(x, days);
    }

    private static void ninetyDaysForTheNotice() {
        Due.sentence("the satellite may have been there before the filing");
        Orbitregister x = Made.launched(7, false, 1);
        x.pass(90);
        x.file(0, 7, 0, 1);
        x.inform(0, false);
        Due.answer("told today", x.use(0, 0), 0);
        x.file(0, 8, 0, 1);
        x.inform(1, false);
        x.change(1, 7, 1);
        Due.answer("changed to it today", x.use(1, 0), 0);
    }

    private static void takenUpAgainAtOnce() {
        Due.sentence("one that is SUSPENDED is taken up again by one that is there");
        Orbitregister x = Made.used(0, 1);
        x.die(0);
        int late = x.launch(2, 0, 0, false);
        Due.answer("launched today", x.use(0, late), 0);
        Due.state("taken up", x, 0, Orbitregister.IN_USE);
        Due.answer("by that", x.filingOf(0, 7), late);
        x.change(0, 1, 1);
        int other = x.launch(2, 2, 1, false);
        x.move(other, 1);
        Due.answer("moved today", x.use(0, other), 0);
        Orbitregister y = Made.used(0, 1);
        y.move(0, 1);
        y.move(0, 0);
        Due.answer("by the one that left it", y.use(0, 0), 0);
    }

    private static void usedInItsSlot() {
        Due.sentence("by a satellite in its slot");
        int[] slots = {1, 359, 180};
        for (int slot : slots) {
            Due.illegalState("NOTIFIED, in slot " + slot, () -> besides(slot), x -> x.use(1, 1));
            Due.illegalState("SUSPENDED, in slot " + slot, () -> besides(slot), x -> x.use(0, 1));
        }
        Due.answer("NOTIFIED, in slot 0", besides(0).use(1, 1), 0);
        Due.answer("SUSPENDED, in slot 0", besides(0).use(0, 1), 0);
        Due.illegalState("a wreck, there", () -> besides(0), x -> x.use(0, 0));
        Due.illegalState("one in a grave", TermsOfUseTest::besidesAGrave, x -> x.use(0, 1));
    }

    /** In slot 0 filing 0 is SUSPENDED, filing 1 NOTIFIED, satellite 0 a wreck; satellite 1 is in the slot told. */
    private static Orbitregister besides(int slot) {
        Orbitregister x = Made.used(0, 1);
        x.file(0, 0, 1, 1);
        x.inform(1, false);
        x.die(0);
        x.launch(1, slot, 2, false);
        x.pass(100);
        return x;
    }

    private static Orbitregister besidesAGrave() {
        Orbitregister x = besides(0);
        x.bury(1);
        return x;
    }

    private static void usedByWhicheverStates() {
        Due.sentence("A satellite, of whichever states");
        Orbitregister x = new Orbitregister();
        x.launch(0b10000000, 0, 1, false);
        x.launch(0b00000001, 0, 1, false);
        x.file(0, 0, 0, 1);
        x.file(7, 0, 1, 1);
        x.inform(0, false);
        x.inform(1, false);
        x.pass(90);
        Due.answer("of land 7 for land 0", x.use(0, 0), 0);
        Due.answer("of land 0 for land 7", x.use(1, 1), 0);
    }

    private static void servesSeveral() {
        Due.sentence("a satellite can serve several");
        Orbitregister x = Made.used(0, 1);
        Due.answer("one", x.satelliteOf(0, 6), 1);
        x.file(1, 0, 0, 1);
        x.inform(1, false);
        x.use(1, 0);
        Due.answer("two", x.satelliteOf(0, 6), 2);
        Due.answer("the first one, still", x.filingOf(0, 7), 0);
        Due.answer("the second one", x.filingOf(1, 7), 0);
    }

    private static void servesAll() {
        Due.sentence("all that it serves are SUSPENDED: all 40");
        Due.answer("it serves", allServed().satelliteOf(0, 6), 40);
        Due.answer("moved", allServed().move(0, 1), 40);
        Due.answer("buried", allServed().bury(0), 40);
        Due.answer("died", allServed().die(0), 40);
        Orbitregister x = allServed();
        x.die(0);
        for (int filing = 0; filing < 40; filing++) {
            Due.state("filing " + filing, x, filing, Orbitregister.SUSPENDED);
        }
        Due.answer("it serves none", x.satelliteOf(0, 6), 0);
    }

    private static Orbitregister allServed() {
        Orbitregister x = Made.launched(0, false, 2);
        x.pass(90);
        for (int filing = 0; filing < 40; filing++) {
            x.file(filing % 8, 0, filing % 5, 50);
            x.inform(filing, true);
            x.use(filing, 0);
        }
        return x;
    }

    private static void suspendedAsItGoes() {
        Due.sentence("As a satellite goes away from its slot, or is no more ACTIVE");
        Orbitregister x = Made.used(0, 1, 50, 1, 100, 1, 150, 1);
        Due.answer("goes away", x.move(0, 1), 1);
        Due.answer("to a grave", x.bury(1), 1);
        Due.answer("a wreck", x.die(2), 1);
        for (int filing = 0; filing < 3; filing++) {
            Due.state("what it served", x, filing, Orbitregister.SUSPENDED);
            Due.answer("served by none", x.filingOf(filing, 7), Orbitregister.NONE);
        }
        Due.state("what another one serves", x, 3, Orbitregister.IN_USE);
        Due.answer("by it", x.filingOf(3, 7), 3);
    }

    private static void suspendedOnlyWhatItServes() {
        Due.sentence("how many filings are SUSPENDED by that: those that it serves alone");
        Orbitregister x = Made.used(0, 1, 0, 1, 50, 1);
        x.file(0, 0, 0, 1);
        x.inform(3, true);
        x.file(0, 0, 0, 1);
        x.change(1, 0, 1);
        Due.answer("one, in a slot of four", x.move(0, 200), 1);
        Due.state("in use by another one", x, 1, Orbitregister.IN_USE);
        Due.state("in another slot", x, 2, Orbitregister.IN_USE);
        Due.state("notified", x, 3, Orbitregister.NOTIFIED);
        Due.state("filed", x, 4, Orbitregister.FILED);
        Due.answer("none is left", x.move(0, 0), 0);
        x.withdraw(1);
        Due.answer("withdrawn before", x.die(1), 0);
        x.change(2, 51, 1);
        Due.answer("suspended before", x.bury(2), 0);
    }

    private static void suspendedByACollisionOfBoth() {
        Due.sentence("Both are WRECKs by a collision: what the first one and what the second one serves is SUSPENDED");
        for (int first = 0; first < 2; first++) {
            Orbitregister x = new Orbitregister();
            for (int i = 0; i < 2; i++) {
                x.file(0, 5, i, 1);
                x.inform(i, false);
                x.launch(1, 5, 0, false);
            }
            x.file(0, 5, 2, 1);
            x.inform(2, false);
            x.launch(1, 5, 0, false);
            x.pass(90);
            for (int i = 0; i < 3; i++) {
                x.use(i, i);
            }
            x.pass(3);
            Due.answer("they collide", x.near(first, 1 - first), Orbitregister.COLLIDED);
            Due.state("what a third one serves", x, 2, Orbitregister.IN_USE);
            for (int i = 0; i < 2; i++) {
                Due.state("what satellite " + i + " served", x, i, Orbitregister.SUSPENDED);
                Due.answer("served by none", x.filingOf(i, 7), Orbitregister.NONE);
                Due.answer("it serves none", x.satelliteOf(i, 6), 0);
                Due.answer("until", x.filingOf(i, 8), 393);
            }
            lapsesOn("the first", x, 0, 393);
            Due.state("the second", x, 1, Orbitregister.LAPSED);
        }
    }

    private static void notSuspendedByOtherSatellites() {
        Due.sentence("all that it serves: what other satellites serve is not SUSPENDED");
        for (int filing = 0; filing < 4; filing++) {
            Orbitregister x = Made.used(0, 1, 50, 1, 100, 1, 150, 1);
            x.stateAnew(filing);
            x.bury((filing + 1) % 4);
            x.die((filing + 2) % 4);
            x.move((filing + 3) % 4, 200);
            Due.state("filing " + filing, x, filing, Orbitregister.IN_USE);
            x.launch(1, 300, 0, false);
            x.launch(1, 300, 0, false);
            x.near(4, 5);
            Due.state("filing " + filing + ", two collide elsewhere", x, filing, Orbitregister.IN_USE);
            x.file(0, 250, 0, 1);
            x.die(filing);
            Due.state("one that is served by none", x, 4, Orbitregister.FILED);
            Due.state("filing " + filing + " at last", x, filing, Orbitregister.SUSPENDED);
        }
    }

    private static void notSuspendedTwice() {
        Due.sentence("SUSPENDED, it is served by none: as that satellite goes, no new days begin");
        Orbitregister changed = Made.used(0, 1);
        changed.change(0, 1, 1);
        changed.pass(10);
        Due.answer("the satellite goes", changed.move(0, 1), 0);
        lapsesOn("by a change", changed, 0, 390);
        Orbitregister complained = quarrel();
        complained.complain(0, 1);
        complained.pass(10);
        Due.answer("the satellite dies", complained.die(1), 0);
        lapsesOn("by a complaint", complained, 1, 390);
        Orbitregister moved = Made.used(0, 1);
        moved.move(0, 1);
        moved.pass(10);
        Due.answer("the satellite goes to a grave", moved.bury(0), 0);
        lapsesOn("by a move", moved, 0, 390);
        Orbitregister withdrawn = Made.used(0, 1);
        withdrawn.withdraw(0);
        Due.answer("the satellite of a withdrawn one", withdrawn.die(0), 0);
        Due.state("a withdrawn one", withdrawn, 0, Orbitregister.LAPSED);
    }

    private static void notSuspendedAsItDodges() {
        Due.sentence("those that dodge stay in their slot, and what they serve is not SUSPENDED");
        Orbitregister x = Made.used(0, 1);
        x.launch(1, 0, 0, false);
        Due.answer("it dodges", x.near(0, 1), Orbitregister.FIRST);
        Due.state("what it serves", x, 0, Orbitregister.IN_USE);
        Due.answer("in its slot", x.satelliteOf(0, 3), 0);
        Due.answer("for its days", x.satelliteOf(0, 5), 90);
    }

    private static void complainsOfOneInUse() {
        Due.sentence("The one that is IN_USE can complain of another one that is IN_USE");
        Due.answer("both are", quarrel().complain(0, 1), true);
        Orbitregister x = quarrel();
        x.complain(0, 1);
        Due.state("that is SUSPENDED", x, 1, Orbitregister.SUSPENDED);
        Due.state("who complains is not", x, 0, Orbitregister.IN_USE);
        Due.illegalState("who is SUSPENDED", () -> quarrelWithout(0), y -> y.complain(0, 1));
        Due.illegalState("of one that is SUSPENDED", () -> quarrelWithout(1), y -> y.complain(0, 1));
    }

    /** Filing 1 is behind filing 0, at its own risk, and harms it by 600. */
    private static Orbitregister quarrel() {
        return Made.used(0, 1, 0, 50);
    }

    private static Orbitregister quarrelWithout(int satellite) {
        Orbitregister x = quarrel();
        x.die(satellite);
        return x;
    }

    private static void complainsOfOneAtRisk() {
        Due.sentence("was notified at its own risk without being clear");
        Orbitregister x = Made.used(0, 1, 0, 1);
        Due.answer("at its own risk, but clear", x.filingOf(1, 6), 0);
        x.change(1, 0, 50);
        Due.answer("harms by 600", x.harm(1, 0), 600);
        Due.answer("was clear", x.complain(0, 1), false);
        Due.unchanged("a complaint of one that was clear", () -> harmfulButClear(), y -> y.complain(0, 1));
    }

    private static Orbitregister harmfulButClear() {
        Orbitregister x = Made.used(0, 1, 0, 1);
        x.change(1, 0, 50);
        return x;
    }

    private static void complainsOfOneBehind() {
        Due.sentence("is behind it");
        Due.answer("of one behind", quarrel().complain(0, 1), true);
        Due.answer("of one ahead", quarrel().complain(1, 0), false);
        Orbitregister x = quarrel();
        x.change(0, 0, 2);
        Due.answer("by now ahead", x.complain(0, 1), false);
        x.change(1, 0, 49);
        Due.answer("ahead still", x.complain(0, 1), false);
        x.change(1, 0, 50);
        Due.answer("behind again", x.complain(0, 1), true);
        Due.unchanged("a complaint of one ahead", TermsOfUseTest::quarrel, y -> y.complain(1, 0));
        Due.unchanged("a complaint of itself", TermsOfUseTest::quarrel, y -> y.complain(1, 1));
    }

    private static void complainsOfTooMuchHarm() {
        Due.sentence("and harms it by more than it is allowed");
        Orbitregister x = quarrel();
        x.change(1, 0, 1);
        Due.answer("harm 12", x.complain(0, 1), false);
        Due.answer("harm 20", lessened(11, 20).complain(0, 1), false);
        Due.answer("harm 21", lessened(11, 21).complain(0, 1), true);
        Orbitregister y = quarrel();
        y.agree(0, 1, 600);
        Due.answer("harm 600 of 600", y.complain(0, 1), false);
        y.agree(1, 0, 599);
        Due.answer("harm 600 of 599", y.complain(0, 1), true);
        Due.answer("no harm in another band", inTwoBands().complain(0, 2), false);
        Due.unchanged("a complaint of harm 20", () -> lessened(11, 20), z -> z.complain(0, 1));
    }

    /** The quarrel, with filing 1 gone to another slot and taken up again there. */
    private static Orbitregister lessened(int slot, int power) {
        Orbitregister x = quarrel();
        x.change(1, slot, power);
        x.move(1, slot);
        x.use(1, 1);
        return x;
    }

    private static Orbitregister inTwoBands() {
        Orbitregister x = new Orbitregister();
        x.file(0, 0, 0, 1);
        x.file(0, 0, 1, 1);
        x.file(0, 0, 1, 50);
        x.inform(0, true);
        x.inform(2, true);
        x.launch(1, 0, 1, false);
        x.pass(90);
        x.use(0, 0);
        x.use(2, 0);
        Due.answer("at its own risk", x.filingOf(2, 6), 1);
        return x;
    }

    private static void bearsThoseBehind() {
        Due.sentence("What a filing bears is the harm of all that are behind it");
        Orbitregister x = Made.used(0, 1, 0, 2, 0, 3);
        Due.answer("the first", x.bears(0), 24 + 36);
        Due.answer("the second", x.bears(1), 36);
        Due.answer("the last", x.bears(2), 0);
        x.change(0, 0, 4);
        Due.answer("the first is the last", x.bears(0), 0);
        Due.answer("the second is the first", x.bears(1), 36 + 48);
        Due.answer("the third is the second", x.bears(2), 48);
    }

    private static void bearsThoseInUse() {
        Due.sentence("of all that are behind it and IN_USE");
        Orbitregister x = Made.filed(0, 1, 0, 2, 0, 3, 0, 5);
        for (int filing = 1; filing < 4; filing++) {
            Due.answer("none is IN_USE", x.bears(0), 0);
            x.inform(filing, true);
        }
        x.launch(1, 0, 1, false);
        x.pass(90);
        Due.answer("all are NOTIFIED", x.bears(0), 0);
        Due.answer("what it bears itself", x.use(2, 0), 0);
        Due.answer("one is IN_USE", x.bears(0), 36);
        Due.answer("what it bears itself", x.use(1, 0), 36);
        Due.answer("two are", x.bears(0), 24 + 36);
        x.die(0);
        Due.answer("they are SUSPENDED", x.bears(0), 0);
    }

    private static void bearsAllTogether() {
        Due.sentence("the harm of all, together: of 39");
        Orbitregister x = Made.launched(0, false, 2);
        x.pass(90);
        for (int filing = 0; filing < 40; filing++) {
            x.file(0, 0, 0, 50);
            x.inform(filing, true);
        }
        for (int filing = 39; filing >= 0; filing--) {
            Due.answer("as it is used, filing " + filing, x.use(filing, 0), 600 * (39 - filing));
        }
        Due.answer("the first", x.bears(0), 39 * 600);
        Due.answer("the last", x.bears(39), 0);
    }

    private static void bearsInAnyState() {
        Due.sentence("what it is itself is not asked, but one that is LAPSED bears nothing");
        Orbitregister x = Made.used(0, 1, 0, 2);
        x.file(0, 0, 0, 1);
        x.change(1, 0, 3);
        Due.answer("FILED", x.bears(2), 36);
        x.inform(2, true);
        Due.answer("NOTIFIED", x.bears(2), 36);
        x.use(2, 0);
        Due.answer("IN_USE", x.bears(2), 36);
        x.die(0);
        Due.answer("SUSPENDED", x.bears(2), 36);
        x.withdraw(2);
        Due.answer("LAPSED", x.bears(2), 0);
    }
}
