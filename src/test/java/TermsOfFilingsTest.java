/** The document's terms of filings, agreements and notices: each sentence at its edges. */
public final class TermsOfFilingsTest {
    private TermsOfFilingsTest() {
    }

    public static void main(String[] args) {
        slotsOfTheRing();
        theShorterWayRound();
        bandsAndLands();
        atMostForty();
        powers();
        datesOfFilings();
        datesOfChanges();
        noDateWithoutNeed();
        theLowerDateIsAhead();
        harmByDistance();
        harmOfOtherBands();
        harmToItself();
        harmOfLapsedOnes();
        allowedWithoutAgreement();
        allowedByAgreement();
        agreementOfThePair();
        agreementWhicheverIsAhead();
        agreementUntilLapsed();
        clearOfThoseAhead();
        clearAsTheFirst();
        notifiedIfClear();
        notifiedAtItsOwnRisk();
        toldForGood();
        keepsItsDate();
        losesItsDate();
        keepsItsDateByLapsedOnes();
        losesItsDateByOneOfMany();
        suspendedByAnotherSlot();
        notSuspendedByTheSameSlot();
        suspendedByTheNextSlot();
        notSuspendedIfNotInUse();
        Due.end("TermsOfFilingsTest");
    }

    private static void slotsOfTheRing() {
        Due.sentence("The ring has the slots 0 to 359");
        Orbitregister x = new Orbitregister();
        Due.answer("the first slot", x.file(0, 0, 0, 1), 0);
        Due.answer("the last slot", x.file(0, 359, 0, 1), 1);
        Due.answer("it is there", x.filingOf(0, 1), 0);
        Due.answer("it is there", x.filingOf(1, 1), 359);
        Due.outOfBounds("slot", 0, 359, () -> Made.filed(0, 1), (y, slot) -> y.file(0, slot, 0, 1));
        Due.outOfBounds("change to", 0, 359, () -> Made.filed(0, 1), (y, slot) -> y.change(0, slot, 1));
        Due.outOfBounds("launch into", 0, 359, () -> Made.filed(0, 1), (y, slot) -> y.launch(1, slot, 1, true));
        Due.outOfBounds("move to", 0, 359, () -> Made.used(0, 1), (y, slot) -> y.move(0, slot));
        Due.outOfBounds("first in", 0, 359, () -> Made.filed(0, 1), (y, slot) -> y.first(slot, 0));
    }

    private static void theShorterWayRound() {
        Due.sentence("two are as far apart as the shorter way round");
        harmAt(359, 0, 11);
        harmAt(0, 359, 11);
        harmAt(359, 359, 12);
        harmAt(359, 10, 1);
        harmAt(10, 359, 1);
        harmAt(359, 11, 0);
        harmAt(11, 359, 0);
        harmAt(349, 0, 1);
        harmAt(348, 0, 0);
        harmAt(0, 349, 1);
        harmAt(0, 348, 0);
        harmAt(0, 179, 0);
        harmAt(0, 180, 0);
        harmAt(0, 181, 0);
        harmAt(180, 359, 0);
        harmAt(179, 180, 11);
    }

    private static void harmAt(int slot, int to, int due) {
        Orbitregister x = Made.filed(slot, 1, to, 50);
        Due.answer("harm of power 1 from " + slot + " to " + to, x.harm(0, 1), due);
        Due.answer("harm of power 50 from " + to + " to " + slot, x.harm(1, 0), 50 * due);
    }

    private static void bandsAndLands() {
        Due.sentence("There are the bands 0 to 4, and the lands 0 to 7");
        Orbitregister x = new Orbitregister();
        for (int land = 0; land <= 7; land++) {
            Due.answer("land " + land, x.filingOf(x.file(land, 1, 0, 1), 0), land);
        }
        for (int band = 0; band <= 4; band++) {
            Due.answer("band " + band, x.filingOf(x.file(0, 2, band, 1), 2), band);
        }
        Due.outOfBounds("band", 0, 4, Orbitregister::new, (y, band) -> y.file(0, 0, band, 1));
        Due.outOfBounds("first in band", 0, 4, () -> Made.filed(0, 1), (y, band) -> y.first(0, band));
        Due.outOfBounds("land", 0, 7, Orbitregister::new, (y, land) -> y.file(land, 0, 0, 1));
        Due.outOfBounds("register by", 0, 7, Made::sixteen, (y, land) -> y.register(0, land));
        Due.outOfBounds("paid by", 0, 7, Made::sixteen, (y, land) -> y.paid(land));
    }

    private static void atMostForty() {
        Due.sentence("Filings are numbered from 0, at most 40");
        Orbitregister x = new Orbitregister();
        for (int i = 0; i < 40; i++) {
            Due.answer("the filing behind " + i, x.file(7 - i % 8, 359 - i, i % 5, 50 - i), i);
        }
        for (int i = 0; i < 40; i++) {
            Due.answer("its land", x.filingOf(i, 0), 7 - i % 8);
            Due.answer("its slot", x.filingOf(i, 1), 359 - i);
            Due.answer("its band", x.filingOf(i, 2), i % 5);
            Due.answer("its power", x.filingOf(i, 3), 50 - i);
            Due.answer("its date", x.filingOf(i, 4), i);
            Due.state("FILED", x, i, Orbitregister.FILED);
        }
        Due.illegalState("the 41st", Made::forty, y -> y.file(0, 0, 0, 1));
        Due.illegalState("the 41st as one is lapsed", TermsOfFilingsTest::fortyOneLapsed, y -> y.file(0, 0, 0, 1));
        Due.illegalState("the 41st as all are lapsed", () -> Made.let(Made.forty(), 700), y -> y.file(0, 0, 0, 1));
    }

    private static Orbitregister fortyOneLapsed() {
        Orbitregister x = Made.forty();
        x.withdraw(39);
        return x;
    }

    private static void powers() {
        Due.sentence("a power, 1 to 50");
        Orbitregister x = Made.filed(100, 1, 100, 50);
        Due.answer("the least", x.filingOf(0, 3), 1);
        Due.answer("the most", x.filingOf(1, 3), 50);
        Due.answer("changed to the most", x.change(0, 100, 50), false);
        Due.answer("it is that", x.filingOf(0, 3), 50);
        Due.answer("changed to the least", x.change(0, 100, 1), true);
        Due.answer("it is that", x.filingOf(0, 3), 1);
        Due.illegalArgument("power", 1, 50, Orbitregister::new, (y, power) -> y.file(0, 0, 0, power));
        Due.illegalArgument("changed to", 1, 50, () -> Made.filed(0, 1), (y, power) -> y.change(0, 0, power));
    }

    private static void datesOfFilings() {
        Due.sentence("dates are counted from 0 over all filings, one more for each filing that is told");
        Orbitregister x = new Orbitregister();
        for (int i = 0; i < 5; i++) {
            x.file(7 - i, 300 - 50 * i, i, 1);
            Due.answer("other lands and bands count together", x.filingOf(i, 4), i);
            x.pass(1);
        }
    }

    private static void datesOfChanges() {
        Due.sentence("one more for each change that loses its date");
        Orbitregister x = Made.filed(0, 1, 0, 1);
        Due.answer("lost", x.change(0, 0, 2), false);
        Due.answer("the next date", x.filingOf(0, 4), 2);
        Due.answer("lost by the last one, too", x.change(0, 0, 3), false);
        Due.answer("the next date", x.filingOf(0, 4), 3);
        Due.answer("lost", x.change(1, 0, 2), false);
        Due.answer("the next date", x.filingOf(1, 4), 4);
        Due.answer("the next date", x.filingOf(x.file(0, 0, 4, 1), 4), 5);
    }

    private static void noDateWithoutNeed() {
        Due.sentence("no date is given but for filings told and changes that lose theirs");
        Orbitregister x = Made.filed(0, 2, 1, 2);
        x.change(0, 0, 1);
        x.agree(0, 1, 600);
        x.inform(0, false);
        x.withdraw(1);
        x.pass(400);
        Due.answer("kept", x.filingOf(0, 4), 0);
        Due.answer("kept by a lapsed one", x.filingOf(1, 4), 1);
        Due.answer("the next date", x.filingOf(x.file(0, 0, 0, 1), 4), 2);
    }

    private static void theLowerDateIsAhead() {
        Due.sentence("Of two filings that with the lower date is ahead");
        Orbitregister x = Made.filed(0, 5, 0, 5);
        Due.answer("date 0 is ahead of date 1", x.allowed(1, 0), 20);
        Due.answer("date 1 is not ahead of date 0", x.allowed(0, 1), Orbitregister.NONE);
        Due.answer("none is ahead of itself", x.allowed(0, 0), Orbitregister.NONE);
        x.change(0, 0, 6);
        Due.answer("date 1 is ahead of date 2", x.allowed(0, 1), 20);
        Due.answer("though its number is higher", x.allowed(1, 0), Orbitregister.NONE);
    }

    private static void harmByDistance() {
        Due.sentence("its power times what 12 has more than the slots are apart, 0 at least");
        for (int apart = 0; apart <= 180; apart++) {
            int due = apart < 12 ? 12 - apart : 0;
            Orbitregister x = Made.filed(100, 1, 100 + apart, 50);
            Due.answer("least power, apart " + apart, x.harm(0, 1), due);
            Due.answer("most power, apart " + apart, x.harm(1, 0), due * 50);
        }
        Orbitregister y = Made.filed(100, 50, 100, 50);
        Due.answer("the most harm there is", y.harm(0, 1), 600);
    }

    private static void harmOfOtherBands() {
        Due.sentence("The harm of a filing to another one of its band; 0 in other bands");
        Orbitregister x = new Orbitregister();
        for (int band = 0; band <= 4; band++) {
            x.file(0, 50, band, 50);
        }
        for (int band = 0; band <= 4; band++) {
            x.file(0, 50, band, 50);
        }
        for (int from = 0; from < 10; from++) {
            for (int to = 0; to < 10; to++) {
                boolean isLike = from % 5 == to % 5 && from != to;
                Due.answer("from " + from + " to " + to, x.harm(from, to), isLike ? 600 : 0);
            }
        }
    }

    private static void harmToItself() {
        Due.sentence("the harm is 0 to itself");
        Orbitregister x = Made.used(0, 50, 0, 1);
        Due.answer("harm", x.harm(0, 0), 0);
        Due.answer("harm", x.harm(1, 1), 0);
        Due.answer("it doesn't bear itself", x.bears(0), 12);
        Due.answer("it doesn't bear itself", x.bears(1), 0);
        Due.answer("it loses no date by itself", Made.filed(0, 1).change(0, 0, 50), true);
    }

    private static void harmOfLapsedOnes() {
        Due.sentence("the harm is 0 if one of both is LAPSED");
        Orbitregister x = Made.filed(0, 10, 0, 20, 0, 30, 0, 40);
        Due.answer("none is lapsed", x.harm(1, 2), 240);
        x.withdraw(1);
        Due.answer("of a lapsed one", x.harm(1, 2), 0);
        Due.answer("to a lapsed one", x.harm(2, 1), 0);
        Due.answer("between two others", x.harm(2, 0), 360);
        x.withdraw(2);
        Due.answer("both are lapsed", x.harm(1, 2), 0);
        Due.answer("between two others", x.harm(3, 0), 480);
        Made.let(x, 700);
        Due.answer("lapsed by days", x.harm(3, 0), 0);
    }

    private static void allowedWithoutAgreement() {
        Due.sentence("the one that is behind is allowed to harm the one that is ahead by 20");
        Due.answer("harm 20 is allowed", Made.filed(0, 1, 11, 20).needs(1), 0);
        Due.answer("harm 21 is not", Made.filed(0, 1, 11, 21).needs(1), 1);
        Due.answer("harm 20 over the end of the ring", Made.filed(0, 1, 349, 20).needs(1), 0);
        Due.answer("harm 21 over it", Made.filed(0, 1, 349, 21).needs(1), 1);
        Due.answer("how much that is", Made.filed(0, 1, 11, 21).allowed(1, 0), 20);
    }

    private static void allowedByAgreement() {
        Due.sentence("or, if both have agreed, by what they agreed");
        Orbitregister x = Made.filed(0, 1, 0, 50);
        x.agree(0, 1, 600);
        Due.answer("harm 600 of 600", x.needs(1), 0);
        x.agree(0, 1, 599);
        Due.answer("harm 600 of 599", x.needs(1), 1);
        x.change(1, 11, 1);
        x.agree(0, 1, 0);
        Due.answer("harm 1 of 0", x.needs(1), 1);
        x.agree(0, 1, 1);
        Due.answer("harm 1 of 1", x.needs(1), 0);
        x.agree(0, 1, 0);
        x.change(1, 12, 1);
        Due.answer("harm 0 of 0", x.needs(1), 0);
    }

    private static void agreementOfThePair() {
        Due.sentence("An agreement is of the pair");
        Orbitregister x = Made.forty();
        Due.answer("the last with the first", x.agree(35, 0, 7), 20);
        Due.answer("the first with the last", x.agree(0, 35, 8), 7);
        Due.answer("allowed", x.allowed(35, 0), 8);
        for (int other = 1; other < 40; other++) {
            if (other != 35) {
                int due = other < 35 ? 20 : Orbitregister.NONE;
                Due.answer("of another pair", x.allowed(35, other), due);
                Due.answer("of another pair", x.allowed(other, 0), 20);
            }
        }
    }

    private static void agreementWhicheverIsAhead() {
        Due.sentence("it stays, whichever of them is ahead");
        Orbitregister x = Made.filed(0, 1, 1, 1);
        x.agree(0, 1, 33);
        Due.answer("filing 1 is behind", x.allowed(1, 0), 33);
        x.change(0, 0, 2);
        Due.answer("filing 0 is behind", x.allowed(0, 1), 33);
        Due.answer("filing 1 is ahead", x.allowed(1, 0), Orbitregister.NONE);
        x.change(1, 1, 2);
        Due.answer("filing 1 is behind again", x.allowed(1, 0), 33);
        x.change(1, 200, 1);
        Due.answer("the places are others", x.allowed(1, 0), 33);
        Due.answer("and told by the next agreement", x.agree(1, 0, 20), 33);
    }

    private static void agreementUntilLapsed() {
        Due.sentence("it stays as long as none of both is LAPSED");
        Orbitregister x = new Orbitregister();
        x.file(0, 0, 0, 5);
        x.file(0, 0, 0, 5);
        x.agree(0, 1, 60);
        Made.let(x, 699);
        Due.answer("699 days behind", x.allowed(1, 0), 60);
        Due.answer("clear by it", x.needs(1), 0);
        x.pass(1);
        Due.answer("700 days behind", x.allowed(1, 0), Orbitregister.NONE);
        for (int lapsed = 0; lapsed < 2; lapsed++) {
            Orbitregister y = Made.filed(0, 5, 0, 5);
            y.agree(0, 1, 60);
            y.withdraw(lapsed);
            Due.answer("one is lapsed", y.allowed(1, 0), Orbitregister.NONE);
            Due.answer("one is lapsed", y.allowed(0, 1), Orbitregister.NONE);
        }
    }

    private static void clearOfThoseAhead() {
        Due.sentence("A filing is clear, if it harms none that is ahead of it by more than it is allowed");
        Orbitregister x = Made.filed(0, 1, 0, 2, 0, 1, 5, 2);
        Due.answer("harm 12 to the first", x.needs(2), 0);
        Due.answer("harm 24 to the first", x.needs(1), 1);
        Due.answer("harm 14 to each of three", x.needs(3), 0);
        Due.answer("not summed up", x.inform(3, false), true);
        Orbitregister y = Made.filed(0, 1, 0, 1, 0, 1, 0, 2);
        Due.answer("three are harmed", y.needs(3), 3);
        y.agree(3, 0, 24);
        y.agree(3, 1, 24);
        Due.answer("one is harmed", y.needs(3), 1);
        y.agree(3, 2, 24);
        Due.answer("none is harmed", y.inform(3, false), true);
    }

    private static void clearAsTheFirst() {
        Due.sentence("those that are behind are not asked whether it is clear");
        Orbitregister x = Made.filed(0, 50, 0, 1, 0, 1);
        Due.answer("harm 600 to those behind", x.needs(0), 0);
        Due.answer("clear", x.inform(0, false), true);
        Due.answer("there is no other one", Made.filed(0, 50).inform(0, false), true);
    }

    private static void notifiedIfClear() {
        Due.sentence("One that is FILED can be notified if it is clear");
        Orbitregister x = Made.filed(0, 1, 11, 20);
        Due.answer("harm 20", x.inform(1, false), true);
        Due.state("NOTIFIED", x, 1, Orbitregister.NOTIFIED);
        Due.answer("without a risk", x.filingOf(1, 6), 0);
        Due.illegalState("harm 21", () -> Made.filed(0, 1, 11, 21), y -> y.inform(1, false));
    }

    private static void notifiedAtItsOwnRisk() {
        Due.sentence("or at its own risk");
        Orbitregister x = Made.filed(0, 1, 11, 21, 11, 20);
        Due.answer("harm 21", x.inform(1, true), false);
        Due.state("NOTIFIED", x, 1, Orbitregister.NOTIFIED);
        Due.answer("not clear then", x.filingOf(1, 6), 1);
        x.agree(1, 2, 600);
        Due.answer("harm 20, at its own risk", x.inform(2, true), true);
        Due.state("NOTIFIED", x, 2, Orbitregister.NOTIFIED);
        Due.answer("but clear", x.filingOf(2, 6), 0);
    }

    private static void toldForGood() {
        Due.sentence("then it is told for good whether it was not clear");
        Orbitregister x = Made.used(0, 1, 0, 50);
        Due.answer("not clear", x.filingOf(1, 6), 1);
        x.agree(0, 1, 600);
        Due.answer("clear by now", x.filingOf(1, 6), 1);
        x.change(1, 100, 1);
        Due.answer("suspended far away", x.filingOf(1, 6), 1);
        x.withdraw(0);
        Due.answer("the other one is lapsed", x.filingOf(1, 6), 1);
        Made.let(x, 300);
        Due.answer("lapsed itself", x.filingOf(1, 6), 1);
        Orbitregister y = Made.filed(0, 1, 0, 1);
        y.inform(1, true);
        y.change(1, 0, 50);
        Due.answer("was clear, is not by now", y.needs(1), 1);
        Due.answer("told that it was", y.filingOf(1, 6), 0);
    }

    private static void keepsItsDate() {
        Due.sentence("It keeps its date, if it harms none that is not LAPSED by more than it did");
        keeps("as much as it did", Made.filed(0, 10, 5, 10), 1, 5, 10);
        keeps("as much from the other side", Made.filed(10, 10, 5, 10), 1, 15, 10);
        keeps("as much over the end of the ring", Made.filed(0, 10, 5, 10), 1, 355, 10);
        keeps("as much from nearer with less", Made.filed(0, 10, 6, 8), 1, 8, 12);
        keeps("less", Made.filed(0, 10, 5, 10), 1, 5, 9);
        keeps("farther", Made.filed(0, 10, 5, 10), 1, 6, 10);
        keeps("none before, none then", Made.filed(0, 10, 12, 10), 1, 180, 50);
        keeps("none 12 apart", Made.filed(0, 10, 20, 10), 1, 12, 50);
        keeps("none 12 apart over the end", Made.filed(0, 10, 20, 10), 1, 348, 50);
    }

    private static void keeps(String what, Orbitregister x, int filing, int slot, int power) {
        int date = x.filingOf(filing, 4);
        Due.answer(what + ", keeps", x.change(filing, slot, power), true);
        Due.answer(what + ", date", x.filingOf(filing, 4), date);
        Due.answer(what + ", slot", x.filingOf(filing, 1), slot);
        Due.answer(what + ", power", x.filingOf(filing, 3), power);
    }

    private static void losesItsDate() {
        Due.sentence("otherwise it has a new date");
        loses("1 more by power", Made.filed(0, 10, 11, 10), 1, 11, 11);
        loses("1 more by the way", Made.filed(0, 10, 11, 1), 1, 10, 1);
        loses("1 more than none", Made.filed(0, 10, 12, 1), 1, 11, 1);
        loses("1 more than none, over the end", Made.filed(0, 10, 348, 1), 1, 349, 1);
        loses("1 more to one that is behind", Made.filed(0, 10, 11, 10), 0, 0, 11);
        Orbitregister x = Made.filed(0, 10, 11, 10);
        x.agree(0, 1, 600);
        loses("1 more, agreed", x, 1, 11, 11);
    }

    private static void loses(String what, Orbitregister x, int filing, int slot, int power) {
        Due.answer(what + ", loses", x.change(filing, slot, power), false);
        Due.answer(what + ", date", x.filingOf(filing, 4), 2);
        Due.answer(what + ", slot", x.filingOf(filing, 1), slot);
        Due.answer(what + ", power", x.filingOf(filing, 3), power);
    }

    private static void keepsItsDateByLapsedOnes() {
        Due.sentence("a change that harms more those that are LAPSED, or of other bands, keeps its date");
        Orbitregister x = Made.filed(0, 10, 11, 10);
        x.withdraw(0);
        keeps("1 more to a lapsed one", x, 1, 11, 11);
        keeps("in its slot", x, 1, 0, 50);
        Orbitregister y = Made.filed(11, 10);
        y.file(0, 0, 1, 10);
        keeps("1 more to one of another band", y, 0, 11, 11);
        keeps("in its slot", y, 0, 0, 50);
        keeps("it is alone", Made.filed(11, 1), 0, 12, 50);
    }

    private static void losesItsDateByOneOfMany() {
        Due.sentence("it harms none by more than it did: each is asked, they are not summed up");
        Orbitregister x = Made.filed(10, 10, 0, 1, 20, 1);
        Due.answer("1 more to one, 1 less to the other one", x.change(0, 11, 10), false);
        Due.answer("a new date", x.filingOf(0, 4), 3);
        Due.answer("1 less to one, 1 more to the other one", x.change(0, 10, 10), false);
        Due.answer("a new date", x.filingOf(0, 4), 4);
    }

    private static void suspendedByAnotherSlot() {
        Due.sentence("If it is IN_USE, and its slot is another one, it is SUSPENDED");
        int[] slots = {1, 359, 180};
        for (int slot : slots) {
            Orbitregister x = Made.used(0, 1);
            Due.answer("keeps its date", x.change(0, slot, 1), true);
            Due.state("SUSPENDED", x, 0, Orbitregister.SUSPENDED);
            Due.answer("served by none", x.filingOf(0, 7), Orbitregister.NONE);
            Due.answer("the satellite serves none", x.satelliteOf(0, 6), 0);
        }
        Orbitregister y = Made.used(0, 1, 100, 1);
        Due.answer("loses its date", y.change(0, 99, 1), false);
        Due.state("SUSPENDED", y, 0, Orbitregister.SUSPENDED);
        Due.state("the other one is not", y, 1, Orbitregister.IN_USE);
    }

    private static void notSuspendedByTheSameSlot() {
        Due.sentence("a change in its slot does not suspend");
        Orbitregister x = Made.used(0, 10, 0, 10);
        Due.answer("with less power", x.change(0, 0, 9), true);
        Due.state("IN_USE", x, 0, Orbitregister.IN_USE);
        Due.answer("as it was", x.change(0, 0, 9), true);
        Due.state("IN_USE", x, 0, Orbitregister.IN_USE);
        Due.answer("with a new date", x.change(0, 0, 10), false);
        Due.state("IN_USE", x, 0, Orbitregister.IN_USE);
        Due.answer("served", x.filingOf(0, 7), 0);
    }

    private static void suspendedByTheNextSlot() {
        Due.sentence("another slot than the one to which it was changed before, not than that in which it was told");
        for (int again = 0; again < 2; again++) {
            Orbitregister x = Made.filed(0, 1);
            x.inform(0, false);
            x.change(0, 9, 1);
            x.launch(1, 9, 0, false);
            x.pass(90);
            x.use(0, 0);
            x.change(0, again == 0 ? 9 : 0, 1);
            int due = again == 0 ? Orbitregister.IN_USE : Orbitregister.SUSPENDED;
            Due.state("changed", x, 0, due);
        }
    }

    private static void notSuspendedIfNotInUse() {
        Due.sentence("a change of one that is FILED, NOTIFIED or SUSPENDED leaves what it is");
        Orbitregister x = Made.filed(0, 1, 100, 1);
        x.inform(1, false);
        x.change(0, 1, 1);
        x.change(1, 101, 1);
        Due.state("FILED", x, 0, Orbitregister.FILED);
        Due.state("NOTIFIED", x, 1, Orbitregister.NOTIFIED);
        Orbitregister y = Made.used(0, 1);
        y.die(0);
        y.pass(7);
        y.change(0, 1, 1);
        Due.state("SUSPENDED", y, 0, Orbitregister.SUSPENDED);
        Due.answer("since the day on which that began", y.filingOf(0, 8), 390);
    }
}
