/** Promises 1 to 8: a new object, and the calls for filings. */
public final class FilingsTest {
    private FilingsTest() {
    }

    public static void main(String[] args) {
        aNewObject();
        file();
        fileRefused();
        agree();
        agreeRefused();
        inform();
        informRefused();
        change();
        changeOfDates();
        changeRefused();
        withdraw();
        use();
        useRefused();
        complain();
        complainRefused();
        Due.end("FilingsTest");
    }

    private static void aNewObject() {
        Orbitregister x = new Orbitregister();
        Due.answer("day", x.day(), 0);
        for (int sector = 0; sector < 36; sector++) {
            Due.answer("pieces", x.pieces(sector), 0);
        }
        for (int land = 0; land < 8; land++) {
            Due.answer("paid", x.paid(land), 0);
        }
        Due.answer("first", x.first(0, 0), Orbitregister.NONE);
        Due.outOfBounds("no filing 0", Orbitregister::new, y -> y.filingOf(0, 0));
        Due.outOfBounds("no satellite 0", Orbitregister::new, y -> y.satelliteOf(0, 0));
        x.file(0, 0, 0, 1);
        Due.answer("objects hold nothing together", new Orbitregister().first(0, 0), Orbitregister.NONE);
    }

    private static void file() {
        Orbitregister x = new Orbitregister();
        x.pass(7);
        Due.answer("file", x.file(7, 359, 4, 50), 0);
        Due.answer("file", x.file(0, 0, 0, 1), 1);
        int[] first = {7, 359, 4, 50, 0, Orbitregister.FILED, 0, Orbitregister.NONE, 707};
        int[] second = {0, 0, 0, 1, 1, Orbitregister.FILED, 0, Orbitregister.NONE, 707};
        for (int what = 0; what <= 8; what++) {
            Due.answer("filingOf(0, " + what + ")", x.filingOf(0, what), first[what]);
            Due.answer("filingOf(1, " + what + ")", x.filingOf(1, what), second[what]);
        }
        x.withdraw(1);
        Due.answer("a number is not given twice", x.file(3, 3, 3, 3), 2);
        Due.answer("nor a date", x.filingOf(2, 4), 2);
    }

    private static Orbitregister withForty() {
        Orbitregister x = new Orbitregister();
        for (int i = 0; i < 40; i++) {
            x.file(i % 8, i * 9, i % 5, 1 + i);
        }
        return x;
    }

    private static Orbitregister withFortyLapsed() {
        Orbitregister x = withForty();
        x.withdraw(3);
        return x;
    }

    private static void fileRefused() {
        Orbitregister full = withForty();
        full.launch(1, 0, 2, false);
        Due.answer("40 looked through", full.bury(0) + full.bears(39) + full.needs(0), 0);
        Due.answer("the 40th", withForty().filingOf(39, 3), 40);
        Due.outOfBounds("land -1", Orbitregister::new, x -> x.file(-1, 0, 0, 1));
        Due.outOfBounds("land 8", Orbitregister::new, x -> x.file(8, 0, 0, 1));
        Due.outOfBounds("slot -1", Orbitregister::new, x -> x.file(0, -1, 0, 1));
        Due.outOfBounds("slot 360", Orbitregister::new, x -> x.file(0, 360, 0, 1));
        Due.outOfBounds("band -1", Orbitregister::new, x -> x.file(0, 0, -1, 1));
        Due.outOfBounds("band 5", Orbitregister::new, x -> x.file(0, 0, 5, 1));
        Due.outOfBounds("land least", Orbitregister::new, x -> x.file(Integer.MIN_VALUE, 0, 0, 1));
        Due.outOfBounds("slot most", Orbitregister::new, x -> x.file(0, Integer.MAX_VALUE, 0, 1));
        Due.illegalArgument("power 0", Orbitregister::new, x -> x.file(0, 0, 0, 0));
        Due.illegalArgument("power 51", Orbitregister::new, x -> x.file(0, 0, 0, 51));
        Due.illegalState("the 41st", FilingsTest::withForty, x -> x.file(0, 0, 0, 1));
        Due.illegalState("the 41st behind a lapsed one", FilingsTest::withFortyLapsed, x -> x.file(0, 0, 0, 1));
        Due.outOfBounds("band ahead of power", Orbitregister::new, x -> x.file(0, 0, 5, 0));
        Due.illegalArgument("power ahead of 40", FilingsTest::withForty, x -> x.file(0, 0, 0, 0));
        Due.outOfBounds("land ahead of all", FilingsTest::withForty, x -> x.file(8, 0, 0, 0));
    }

    private static Orbitregister withPair() {
        Orbitregister x = new Orbitregister();
        x.file(0, 100, 2, 5);
        x.file(1, 105, 2, 4);
        x.file(2, 105, 3, 4);
        return x;
    }

    private static Orbitregister withLapsedPair() {
        Orbitregister x = withPair();
        x.withdraw(0);
        return x;
    }

    private static void agree() {
        Orbitregister x = withPair();
        Due.answer("harm of what is behind", x.harm(1, 0), 28);
        Due.answer("without an agreement", x.agree(0, 1, 28), 20);
        Due.answer("allowed", x.allowed(1, 0), 28);
        Due.answer("not to the one ahead", x.allowed(0, 1), Orbitregister.NONE);
        Due.answer("clear then", x.needs(1), 0);
        Due.answer("of the pair", x.agree(1, 0, 0), 28);
        Due.answer("agreed for none", x.allowed(1, 0), 0);
        Due.answer("least and most", x.agree(1, 0, 600), 0);
        Due.answer("most", x.allowed(1, 0), 600);
        x.agree(0, 1, 77);
        Due.answer("the one ahead loses its date", x.change(0, 102, 5), false);
        Due.answer("whichever is ahead", x.allowed(0, 1), 77);
        Due.answer("and not the other way", x.allowed(1, 0), Orbitregister.NONE);
        x.file(3, 104, 2, 1);
        Due.answer("a third is not of the pair", x.allowed(3, 1), 20);
        Due.answer("nor with the other one", x.allowed(3, 0), 20);
    }

    private static void agreeRefused() {
        Due.outOfBounds("filing -1", FilingsTest::withPair, x -> x.agree(-1, 1, 5));
        Due.outOfBounds("filing 3", FilingsTest::withPair, x -> x.agree(3, 1, 5));
        Due.outOfBounds("other -1", FilingsTest::withPair, x -> x.agree(0, -1, 5));
        Due.outOfBounds("other 3", FilingsTest::withPair, x -> x.agree(0, 3, 5));
        Due.illegalArgument("both the same", FilingsTest::withPair, x -> x.agree(1, 1, 5));
        Due.illegalArgument("harm -1", FilingsTest::withPair, x -> x.agree(0, 1, -1));
        Due.illegalArgument("harm 601", FilingsTest::withPair, x -> x.agree(0, 1, 601));
        Due.illegalState("bands unlike", FilingsTest::withPair, x -> x.agree(1, 2, 5));
        Due.illegalState("the first lapsed", FilingsTest::withLapsedPair, x -> x.agree(0, 1, 5));
        Due.illegalState("the second lapsed", FilingsTest::withLapsedPair, x -> x.agree(1, 0, 5));
        Due.outOfBounds("no such one ahead of harm", FilingsTest::withPair, x -> x.agree(0, 3, 601));
        Due.outOfBounds("no such one, twice", FilingsTest::withPair, x -> x.agree(3, 3, 5));
        Due.illegalArgument("harm ahead of lapsed", FilingsTest::withLapsedPair, x -> x.agree(0, 1, 601));
        Due.illegalArgument("same ahead of lapsed", FilingsTest::withLapsedPair, x -> x.agree(0, 0, 5));
        Due.illegalArgument("harm ahead of bands", FilingsTest::withPair, x -> x.agree(1, 2, -1));
    }

    private static void inform() {
        Orbitregister x = withPair();
        Due.answer("the first is clear", x.inform(0, false), true);
        Due.answer("NOTIFIED", x.filingOf(0, 5), Orbitregister.NOTIFIED);
        Due.answer("at its own risk", x.inform(1, true), false);
        Due.answer("told so", x.filingOf(1, 6), 1);
        x.agree(0, 1, 600);
        Due.answer("clear by now", x.needs(1), 0);
        Due.answer("told for good", x.filingOf(1, 6), 1);
        Due.answer("clear, at its own risk", x.inform(2, true), true);
        Due.answer("was clear", x.filingOf(2, 6), 0);
        x.withdraw(1);
        Due.answer("told for good of a lapsed one", x.filingOf(1, 6), 1);
        Due.answer("no new day by that", withNotified().filingOf(0, 8), 700);

        Orbitregister y = new Orbitregister();
        y.file(0, 0, 0, 1);
        y.file(0, 2, 0, 2);
        Due.answer("just as much as allowed", y.harm(1, 0), 20);
        Due.answer("is clear", y.inform(1, false), true);
    }

    private static Orbitregister withNotified() {
        Orbitregister x = withPair();
        x.pass(10);
        x.inform(0, false);
        return x;
    }

    private static void informRefused() {
        Due.outOfBounds("filing -1", FilingsTest::withPair, x -> x.inform(-1, true));
        Due.outOfBounds("filing 3", FilingsTest::withPair, x -> x.inform(3, true));
        Due.illegalState("not clear", FilingsTest::withPair, x -> x.inform(1, false));
        Due.illegalState("notified", FilingsTest::withNotified, x -> x.inform(0, true));
        Due.illegalState("lapsed", FilingsTest::withLapsedPair, x -> x.inform(0, true));
        Due.illegalState("in use", FilingsTest::withUse, x -> x.inform(0, true));
    }

    /** Filing 0 is IN_USE by satellite 0 in slot 50, filing 1 NOTIFIED at its own risk in slot 52. */
    private static Orbitregister withUse() {
        Orbitregister x = new Orbitregister();
        x.file(0, 50, 1, 10);
        x.file(1, 52, 1, 10);
        x.file(2, 300, 1, 1);
        x.inform(0, false);
        x.inform(1, true);
        x.launch(1, 50, 9, false);
        x.launch(1, 52, 9, false);
        x.pass(100);
        x.use(0, 0);
        return x;
    }

    private static void change() {
        Orbitregister x = withUse();
        Due.answer("less power", x.change(0, 50, 9), true);
        Due.answer("in use still", x.filingOf(0, 5), Orbitregister.IN_USE);
        Due.answer("by its satellite", x.filingOf(0, 7), 0);
        Due.answer("its power", x.filingOf(0, 3), 9);
        Due.answer("another slot", x.change(0, 49, 9), true);
        Due.answer("its slot", x.filingOf(0, 1), 49);
        Due.answer("suspended", x.filingOf(0, 5), Orbitregister.SUSPENDED);
        Due.answer("served by none", x.filingOf(0, 7), Orbitregister.NONE);
        Due.answer("300 days from now", x.filingOf(0, 8), 400);
        x.pass(5);
        x.change(0, 48, 9);
        Due.answer("suspended from the same day", x.filingOf(0, 8), 400);
        Due.answer("anew", x.stateAnew(0), Orbitregister.SUSPENDED);
        Due.answer("a notified one", x.change(1, 60, 1), true);
        Due.answer("stays notified", x.filingOf(1, 5), Orbitregister.NOTIFIED);
        Due.answer("lapses as it did", x.filingOf(1, 8), 700);
        Due.answer("a filed one", x.change(2, 301, 1), true);
        Due.answer("stays filed", x.filingOf(2, 5), Orbitregister.FILED);
    }

    private static void changeOfDates() {
        Orbitregister x = new Orbitregister();
        x.file(0, 0, 0, 10);
        x.file(0, 10, 0, 10);
        x.file(0, 350, 0, 10);
        x.file(0, 5, 1, 10);
        Due.answer("nothing told", x.change(0, 0, 10), true);
        Due.answer("nearer to one", x.change(0, 1, 10), false);
        Due.answer("a new date", x.filingOf(0, 4), 4);
        Due.answer("nearer to the other one", x.change(0, 0, 10), false);
        Due.answer("a newer date", x.filingOf(0, 4), 5);
        Due.answer("more power", x.change(0, 0, 11), false);
        Due.answer("the newest date", x.filingOf(0, 4), 6);
        Due.answer("the next filing", x.file(1, 200, 0, 1), 4);
        Due.answer("has the next date", x.filingOf(4, 4), 7);
        Due.answer("less power", x.change(1, 11, 3), true);
        Due.answer("one that is behind is harmed more", x.change(1, 10, 4), false);
        Due.answer("far from all", x.change(4, 100, 50), true);
        x.withdraw(0);
        x.withdraw(1);
        Due.answer("by lapsed ones nothing is lost", x.change(2, 5, 50), true);
        Due.answer("other bands neither", x.filingOf(2, 4), 2);

        Orbitregister y = new Orbitregister();
        y.file(0, 100, 0, 2);
        y.file(0, 110, 0, 20);
        y.agree(0, 1, 600);
        Due.answer("an agreement saves no date", y.change(1, 109, 20), false);
    }

    private static Orbitregister withLapsedUse() {
        Orbitregister x = withUse();
        x.withdraw(0);
        return x;
    }

    private static void changeRefused() {
        Due.outOfBounds("filing -1", FilingsTest::withUse, x -> x.change(-1, 0, 1));
        Due.outOfBounds("filing 3", FilingsTest::withUse, x -> x.change(3, 0, 1));
        Due.outOfBounds("slot -1", FilingsTest::withUse, x -> x.change(0, -1, 1));
        Due.outOfBounds("slot 360", FilingsTest::withUse, x -> x.change(0, 360, 1));
        Due.illegalArgument("power 0", FilingsTest::withUse, x -> x.change(0, 0, 0));
        Due.illegalArgument("power 51", FilingsTest::withUse, x -> x.change(0, 0, 51));
        Due.illegalState("lapsed", FilingsTest::withLapsedUse, x -> x.change(0, 0, 1));
        Due.outOfBounds("slot ahead of power", FilingsTest::withUse, x -> x.change(0, 360, 51));
        Due.outOfBounds("slot ahead of lapsed", FilingsTest::withLapsedUse, x -> x.change(0, 360, 1));
        Due.illegalArgument("power ahead of lapsed", FilingsTest::withLapsedUse, x -> x.change(0, 0, 51));
    }

    private static void withdraw() {
        Orbitregister x = withUse();
        x.pass(1);
        Due.answer("one in use", x.withdraw(0), Orbitregister.IN_USE);
        Due.answer("lapsed", x.filingOf(0, 5), Orbitregister.LAPSED);
        Due.answer("anew", x.stateAnew(0), Orbitregister.LAPSED);
        Due.answer("served by none", x.filingOf(0, 7), Orbitregister.NONE);
        Due.answer("it serves none", x.satelliteOf(0, 6), 0);
        Due.answer("no day", x.filingOf(0, 8), Orbitregister.NONE);
        Due.answer("its slot stays", x.filingOf(0, 1), 50);
        Due.answer("the satellite leaves none", x.move(0, 7), 0);
        Due.answer("lapsed still", x.filingOf(0, 5), Orbitregister.LAPSED);
        Due.answer("a notified one", x.withdraw(1), Orbitregister.NOTIFIED);
        Due.answer("a filed one", x.withdraw(2), Orbitregister.FILED);
        Orbitregister y = withUse();
        y.die(0);
        Due.answer("a suspended one", y.withdraw(0), Orbitregister.SUSPENDED);
        Due.outOfBounds("filing -1", FilingsTest::withUse, z -> z.withdraw(-1));
        Due.outOfBounds("filing 3", FilingsTest::withUse, z -> z.withdraw(3));
        Due.illegalState("lapsed", FilingsTest::withLapsedUse, z -> z.withdraw(0));
    }

    private static void use() {
        Orbitregister x = new Orbitregister();
        x.file(0, 50, 1, 10);
        x.file(1, 52, 1, 10);
        x.file(2, 50, 2, 3);
        x.inform(0, false);
        x.inform(1, true);
        x.inform(2, false);
        x.launch(128, 52, 1, false);
        x.launch(128, 50, 1, false);
        x.pass(90);
        Due.answer("90 days, whichever states", x.use(1, 0), 0);
        Due.answer("in use", x.filingOf(1, 5), Orbitregister.IN_USE);
        Due.answer("by its satellite", x.filingOf(1, 7), 0);
        Due.answer("no day", x.filingOf(1, 8), Orbitregister.NONE);
        Due.answer("bears what is behind", x.use(0, 1), 100);
        Due.answer("another band bears nothing", x.use(2, 1), 0);
        Due.answer("it serves two", x.satelliteOf(1, 6), 2);
        x.pass(1);
        Due.answer("both suspended", x.move(1, 52), 2);
        Due.answer("300 days from then", x.filingOf(0, 8), 391);
        x.change(0, 52, 10);
        Due.answer("taken up again at once", x.use(0, 1), 0);
        Due.answer("now behind the other one, which bears", x.bears(1), 120);
        x.pass(400);
        Due.answer("in use for good", x.stateAnew(0), Orbitregister.IN_USE);
        Due.answer("the one that is not taken up", x.stateAnew(2), Orbitregister.LAPSED);
    }

    private static Orbitregister withShortStay() {
        Orbitregister x = new Orbitregister();
        x.file(0, 50, 1, 10);
        x.file(0, 50, 2, 10);
        x.inform(0, false);
        x.launch(1, 50, 9, false);
        x.launch(1, 51, 9, false);
        x.launch(1, 50, 9, false);
        x.die(2);
        x.pass(89);
        return x;
    }

    private static Orbitregister withReturn() {
        Orbitregister x = withShortStay();
        x.pass(1);
        x.move(0, 51);
        x.move(0, 50);
        x.pass(89);
        return x;
    }

    private static void useRefused() {
        Due.outOfBounds("filing -1", FilingsTest::withShortStay, x -> x.use(-1, 0));
        Due.outOfBounds("filing 2", FilingsTest::withShortStay, x -> x.use(2, 0));
        Due.outOfBounds("satellite -1", FilingsTest::withShortStay, x -> x.use(0, -1));
        Due.outOfBounds("satellite 3", FilingsTest::withShortStay, x -> x.use(0, 3));
        Due.outOfBounds("satellite ahead of filed", FilingsTest::withShortStay, x -> x.use(1, 3));
        Due.illegalState("89 days", FilingsTest::withShortStay, x -> x.use(0, 0));
        Due.illegalState("89 days since it came again", FilingsTest::withReturn, x -> x.use(0, 0));
        Due.illegalState("filed", FilingsTest::withReturn, x -> x.use(1, 0));
        Due.illegalState("another slot", FilingsTest::withReturn, x -> x.use(0, 1));
        Due.illegalState("a wreck", FilingsTest::withReturn, x -> x.use(0, 2));
        Due.illegalState("in use", FilingsTest::withUse, x -> x.use(0, 0));
        Due.illegalState("lapsed", FilingsTest::withLapsedUse, x -> x.use(0, 0));
        Due.illegalState("suspended, not there", FilingsTest::withSuspended, x -> x.use(0, 1));
        Due.illegalState("suspended, a wreck", FilingsTest::withSuspended, x -> x.use(0, 0));
        Orbitregister y = withReturn();
        y.pass(1);
        Due.answer("the 90th day", y.use(0, 0), 0);
    }

    private static Orbitregister withSuspended() {
        Orbitregister x = withUse();
        x.die(0);
        return x;
    }

    /** Filings 0 and 1 IN_USE, the second one behind, at its own risk and too harmful. */
    private static Orbitregister withQuarrel() {
        Orbitregister x = withUse();
        x.use(1, 1);
        return x;
    }

    private static void complain() {
        Orbitregister x = withQuarrel();
        x.pass(3);
        Due.answer("of the one ahead", x.complain(1, 0), false);
        Due.answer("of itself", x.complain(1, 1), false);
        Due.answer("of the one behind", x.complain(0, 1), true);
        Due.answer("suspended", x.filingOf(1, 5), Orbitregister.SUSPENDED);
        Due.answer("anew", x.stateAnew(1), Orbitregister.SUSPENDED);
        Due.answer("served by none", x.filingOf(1, 7), Orbitregister.NONE);
        Due.answer("300 days from now", x.filingOf(1, 8), 403);
        Due.answer("taken up again", x.use(1, 1), 0);
        x.agree(0, 1, 99);
        Due.answer("harm 100 is above", x.complain(0, 1), true);
        x.use(1, 1);
        x.agree(0, 1, 100);
        Due.answer("harm 100 is allowed", x.complain(0, 1), false);
        Due.answer("in use still", x.stateAnew(1), Orbitregister.IN_USE);
        x.agree(0, 1, 0);
        x.change(0, 50, 50);
        Due.answer("no more ahead", x.complain(0, 1), false);
        Due.answer("the other was no risk", x.complain(1, 0), false);

        Orbitregister y = new Orbitregister();
        y.file(0, 50, 1, 10);
        y.file(1, 52, 1, 10);
        y.agree(0, 1, 100);
        y.inform(0, false);
        y.inform(1, true);
        y.launch(1, 50, 9, false);
        y.launch(1, 52, 9, false);
        y.pass(90);
        y.use(0, 0);
        y.use(1, 1);
        y.agree(0, 1, 1);
        Due.answer("it was clear as it was notified", y.complain(0, 1), false);
    }

    private static void complainRefused() {
        Due.outOfBounds("filing -1", FilingsTest::withQuarrel, x -> x.complain(-1, 1));
        Due.outOfBounds("filing 3", FilingsTest::withQuarrel, x -> x.complain(3, 1));
        Due.outOfBounds("of -1", FilingsTest::withQuarrel, x -> x.complain(0, -1));
        Due.outOfBounds("of 3", FilingsTest::withQuarrel, x -> x.complain(0, 3));
        Due.outOfBounds("of ahead of not in use", FilingsTest::withQuarrel, x -> x.complain(2, 3));
        Due.illegalState("filed", FilingsTest::withQuarrel, x -> x.complain(2, 1));
        Due.illegalState("of a filed one", FilingsTest::withQuarrel, x -> x.complain(0, 2));
        Due.illegalState("of a notified one", FilingsTest::withUse, x -> x.complain(0, 1));
        Due.illegalState("of a lapsed one", FilingsTest::withLapsedUse, x -> x.complain(1, 0));
    }
}
