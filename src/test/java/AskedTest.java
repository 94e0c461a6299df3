/** Promises 17 to 27: what is asked. */
public final class AskedTest {
    private AskedTest() {
    }

    public static void main(String[] args) {
        day();
        filingOf();
        stateAnew();
        harm();
        allowed();
        needs();
        bears();
        first();
        satelliteOf();
        pieces();
        paid();
        Due.end("AskedTest");
    }

    private static void day() {
        Orbitregister x = new Orbitregister();
        x.pass(400);
        x.pass(33);
        Due.answer("day", x.day(), 433);
    }

    /** Filings 0 to 3 of one band in slots 0, 356, 5 and 12, filing 4 in another one; 0, 1, 2 IN_USE. */
    private static Orbitregister made() {
        Orbitregister x = new Orbitregister();
        x.file(3, 0, 2, 7);
        x.file(4, 356, 2, 3);
        x.file(5, 5, 2, 50);
        x.file(6, 12, 2, 9);
        x.file(7, 0, 3, 50);
        x.launch(6, 0, 4, true);
        x.launch(1, 356, 4, true);
        x.launch(1, 5, 4, true);
        x.agree(1, 0, 24);
        x.inform(0, false);
        x.inform(1, false);
        x.inform(2, true);
        x.pass(90);
        x.use(0, 0);
        x.use(1, 1);
        x.use(2, 2);
        return x;
    }

    private static void filingOf() {
        Orbitregister x = made();
        int[] due = {5, 5, 2, 50, 2, Orbitregister.IN_USE, 1, 2, Orbitregister.NONE};
        for (int what = 0; what <= 8; what++) {
            Due.answer("filingOf(2, " + what + ")", x.filingOf(2, what), due[what]);
        }
        Due.answer("of a filed one", x.filingOf(3, 8), 700);
        Due.outOfBounds("filing -1", AskedTest::made, y -> y.filingOf(-1, 0));
        Due.outOfBounds("filing 5", AskedTest::made, y -> y.filingOf(5, 0));
        Due.outOfBounds("filing 5 ahead of what", AskedTest::made, y -> y.filingOf(5, 9));
        Due.illegalArgument("what -1", AskedTest::made, y -> y.filingOf(0, -1));
        Due.illegalArgument("what 9", AskedTest::made, y -> y.filingOf(0, 9));
    }

    private static void stateAnew() {
        Orbitregister x = made();
        Due.answer("in use", x.stateAnew(0), Orbitregister.IN_USE);
        Due.answer("filed", x.stateAnew(3), Orbitregister.FILED);
        Due.answer("complaint", x.complain(0, 2), true);
        Due.answer("suspended by it", x.stateAnew(2), Orbitregister.SUSPENDED);
        Due.answer("not who complains", x.stateAnew(0), Orbitregister.IN_USE);
        x.change(1, 356, 2);
        Due.answer("the slot stays", x.stateAnew(1), Orbitregister.IN_USE);
        x.inform(4, false);
        Due.answer("notified", x.stateAnew(4), Orbitregister.NOTIFIED);
        x.withdraw(4);
        Due.answer("withdrawn", x.stateAnew(4), Orbitregister.LAPSED);
        x.pass(299);
        x.use(2, 2);
        x.pass(2);
        Due.answer("taken up again in time", x.stateAnew(2), Orbitregister.IN_USE);
        x.move(1, 0);
        Due.answer("its satellite left", x.stateAnew(1), Orbitregister.SUSPENDED);
        Due.answer("both dodge", x.near(0, 1), Orbitregister.BOTH);
        Due.answer("its satellite dodged", x.stateAnew(0), Orbitregister.IN_USE);
        x.move(2, 0);
        Due.answer("into one another", x.near(0, 2), Orbitregister.INTO);
        Due.answer("its satellite is a wreck", x.stateAnew(0), Orbitregister.SUSPENDED);
        x.pass(300);
        Due.answer("lapsed", x.stateAnew(0), Orbitregister.LAPSED);
        stateAnewOfSeveral();
        stateAnewOfSlots();
        stateAnewOfEnds();
        stateAnewOfManyCalls();
        Due.outOfBounds("filing -1", AskedTest::made, y -> y.stateAnew(-1));
        Due.outOfBounds("filing 5", AskedTest::made, y -> y.stateAnew(5));
    }

    private static void stateAnewOfSeveral() {
        Orbitregister x = made();
        x.pass(10);
        x.move(0, 1);
        x.file(0, 200, 0, 1);
        Due.answer("one that was served", x.stateAnew(1), Orbitregister.IN_USE);
        Due.answer("one that lost it", x.stateAnew(0), Orbitregister.SUSPENDED);
        Due.answer("one that was never served", x.stateAnew(3), Orbitregister.FILED);
        x.pass(400);
        x.pass(200);
        Due.answer("told 700 days ago", x.stateAnew(3), Orbitregister.LAPSED);
        x.pass(99);
        Due.answer("told 699 days ago", x.stateAnew(5), Orbitregister.FILED);
        x.pass(1);
        Due.answer("told 700 days ago", x.stateAnew(5), Orbitregister.LAPSED);
        Due.answer("again", x.stateAnew(1), Orbitregister.IN_USE);
    }

    private static void stateAnewOfSlots() {
        Orbitregister x = made();
        x.inform(3, true);
        x.change(3, 356, 1);
        x.use(3, 1);
        x.change(3, 356, 2);
        Due.answer("it stays in the slot to which it changed", x.stateAnew(3), Orbitregister.IN_USE);
        x.change(3, 12, 2);
        Due.answer("it goes to the slot in which it was told", x.stateAnew(3), Orbitregister.SUSPENDED);
    }

    private static void stateAnewOfEnds() {
        Orbitregister x = made();
        x.complain(0, 2);
        x.withdraw(1);
        x.pass(100);
        x.die(2);
        x.die(1);
        Due.answer("what served a withdrawn one dies", x.stateAnew(1), Orbitregister.LAPSED);
        x.pass(199);
        Due.answer("299 days behind the complaint", x.stateAnew(2), Orbitregister.SUSPENDED);
        x.pass(1);
        Due.answer("300 days behind it", x.stateAnew(2), Orbitregister.LAPSED);
    }

    private static void stateAnewOfManyCalls() {
        Orbitregister x = new Orbitregister();
        x.file(0, 0, 0, 1);
        for (int i = 0; i < 509; i++) {
            x.change(0, i % 360, 1 + i % 50);
        }
        x.withdraw(0);
        Due.answer("as the 512th call", x.stateAnew(0), Orbitregister.LAPSED);
        for (int i = 1; i < 40; i++) {
            x.file(0, i, 0, 1);
        }
        for (int filing = 0; filing < 40; filing++) {
            int state = x.stateAnew(filing);
            Due.answer("free behind it, but an answer", state >= -1 && state <= 4, true);
        }
    }

    private static void harm() {
        Orbitregister x = made();
        Due.answer("4 apart over the end", x.harm(0, 1), 7 * 8);
        Due.answer("the other way", x.harm(1, 0), 3 * 8);
        Due.answer("9 apart over the end", x.harm(2, 1), 50 * 3);
        Due.answer("12 apart", x.harm(0, 3), 0);
        Due.answer("16 apart", x.harm(3, 1), 0);
        Due.answer("7 apart", x.harm(3, 2), 9 * 5);
        Due.answer("another band", x.harm(4, 0), 0);
        Due.answer("itself", x.harm(2, 2), 0);
        x.change(3, 5, 50);
        Due.answer("one slot", x.harm(3, 2), 600);
        x.change(3, 185, 50);
        Due.answer("half a ring", x.harm(3, 2), 0);
        x.change(3, 11, 1);
        Due.answer("11 apart", x.harm(3, 0), 1);
        x.withdraw(1);
        Due.answer("to a lapsed one", x.harm(0, 1), 0);
        Due.answer("of a lapsed one", x.harm(1, 0), 0);
        Due.outOfBounds("filing -1", AskedTest::made, y -> y.harm(-1, 0));
        Due.outOfBounds("filing 5", AskedTest::made, y -> y.harm(5, 0));
        Due.outOfBounds("to -1", AskedTest::made, y -> y.harm(0, -1));
        Due.outOfBounds("to 5", AskedTest::made, y -> y.harm(0, 5));
    }

    private static void allowed() {
        Orbitregister x = made();
        Due.answer("without an agreement", x.allowed(2, 0), 20);
        Due.answer("agreed", x.allowed(1, 0), 24);
        Due.answer("unlike bands", x.allowed(4, 0), 20);
        Due.answer("not ahead", x.allowed(0, 1), Orbitregister.NONE);
        Due.answer("not ahead, unlike bands", x.allowed(0, 4), Orbitregister.NONE);
        Due.answer("itself", x.allowed(2, 2), Orbitregister.NONE);
        x.withdraw(1);
        Due.answer("to a lapsed one", x.allowed(2, 1), Orbitregister.NONE);
        Due.answer("of a lapsed one", x.allowed(1, 0), Orbitregister.NONE);
        Due.outOfBounds("filing -1", AskedTest::made, y -> y.allowed(-1, 0));
        Due.outOfBounds("filing 5", AskedTest::made, y -> y.allowed(5, 0));
        Due.outOfBounds("to -1", AskedTest::made, y -> y.allowed(0, -1));
        Due.outOfBounds("to 5", AskedTest::made, y -> y.allowed(0, 5));
    }

    private static void needs() {
        Orbitregister x = made();
        Due.answer("the first", x.needs(0), 0);
        Due.answer("as agreed", x.needs(1), 0);
        Due.answer("two", x.needs(2), 2);
        Due.answer("one", x.needs(3), 1);
        Due.answer("another band", x.needs(4), 0);
        x.agree(2, 1, 149);
        Due.answer("more than agreed", x.needs(2), 2);
        x.agree(2, 1, 150);
        Due.answer("as agreed", x.needs(2), 1);
        x.withdraw(0);
        Due.answer("lapsed ones need not", x.needs(2), 0);
        x.withdraw(3);
        Due.answer("a lapsed one", x.needs(3), 0);
        Due.outOfBounds("filing -1", AskedTest::made, y -> y.needs(-1));
        Due.outOfBounds("filing 5", AskedTest::made, y -> y.needs(5));
    }

    private static void bears() {
        Orbitregister x = made();
        Due.answer("two", x.bears(0), 24 + 50 * 7);
        Due.answer("one", x.bears(1), 150);
        Due.answer("none behind", x.bears(2), 0);
        Due.answer("one that is filed bears", x.bears(3), 0);
        x.change(0, 1, 7);
        x.use(0, x.launch(1, 1, 0, false));
        Due.answer("by the new date", x.bears(1), 150 + 7 * 7);
        Due.answer("by the new date", x.bears(2), 7 * 8);
        x.die(2);
        Due.answer("not by a suspended one", x.bears(1), 49);
        Due.answer("a suspended one bears", x.bears(2), 7 * 8);
        x.withdraw(2);
        Due.answer("a lapsed one does not", x.bears(2), 0);
        Due.outOfBounds("filing -1", AskedTest::made, y -> y.bears(-1));
        Due.outOfBounds("filing 5", AskedTest::made, y -> y.bears(5));
    }

    private static void first() {
        Orbitregister x = made();
        Due.answer("by its slot and band", x.first(0, 2), 0);
        Due.answer("another band", x.first(0, 3), 4);
        Due.answer("none in the band", x.first(0, 0), Orbitregister.NONE);
        Due.answer("none in the slot", x.first(1, 2), Orbitregister.NONE);
        x.change(3, 0, 9);
        Due.answer("the lower date", x.first(0, 2), 0);
        x.change(0, 0, 8);
        Due.answer("a date is lost", x.first(0, 2), 3);
        x.withdraw(3);
        Due.answer("without the lapsed one", x.first(0, 2), 0);
        Due.outOfBounds("slot -1", AskedTest::made, y -> y.first(-1, 0));
        Due.outOfBounds("slot 360", AskedTest::made, y -> y.first(360, 0));
        Due.outOfBounds("band -1", AskedTest::made, y -> y.first(0, -1));
        Due.outOfBounds("band 5", AskedTest::made, y -> y.first(0, 5));
        Due.answer("the last slot", x.first(359, 4), Orbitregister.NONE);
    }

    private static void satelliteOf() {
        Orbitregister x = made();
        x.inform(4, false);
        x.use(4, 0);
        x.pass(3);
        int[] due = {6, 1, Orbitregister.ACTIVE, 0, 4, 93, 2};
        for (int what = 0; what <= 6; what++) {
            Due.answer("satelliteOf(0, " + what + ")", x.satelliteOf(0, what), due[what]);
        }
        x.withdraw(0);
        Due.answer("one less", x.satelliteOf(0, 6), 1);
        x.change(4, 9, 50);
        Due.answer("none", x.satelliteOf(0, 6), 0);
        x.complain(1, 2);
        Due.answer("a complaint", x.satelliteOf(2, 6), 0);
        Due.outOfBounds("satellite -1", AskedTest::made, y -> y.satelliteOf(-1, 0));
        Due.outOfBounds("satellite 3", AskedTest::made, y -> y.satelliteOf(3, 0));
        Due.outOfBounds("satellite ahead of what", AskedTest::made, y -> y.satelliteOf(3, 7));
        Due.illegalArgument("what -1", AskedTest::made, y -> y.satelliteOf(0, -1));
        Due.illegalArgument("what 7", AskedTest::made, y -> y.satelliteOf(0, 7));
    }

    private static void pieces() {
        Orbitregister x = made();
        x.move(0, 356);
        x.die(1);
        x.near(0, 1);
        Due.answer("dodged", x.pieces(35), 0);
        x.die(0);
        x.near(0, 1);
        Due.answer("collided", x.pieces(35), 100);
        Due.answer("elsewhere", x.pieces(34), 0);
        Due.outOfBounds("sector -1", AskedTest::made, y -> y.pieces(-1));
        Due.outOfBounds("sector 36", AskedTest::made, y -> y.pieces(36));
    }

    private static void paid() {
        Orbitregister x = made();
        x.register(0, 2);
        x.claim(0, 5, true, false);
        x.claim(0, 5, false, false);
        Due.answer("land 0", x.paid(0), 0);
        Due.answer("land 1", x.paid(1), 3);
        Due.answer("land 2", x.paid(2), 3);
        x.claim(1, 100, false, true);
        Due.answer("land 0", x.paid(0), 100);
        Due.outOfBounds("land -1", AskedTest::made, y -> y.paid(-1));
        Due.outOfBounds("land 8", AskedTest::made, y -> y.paid(8));
    }
}
