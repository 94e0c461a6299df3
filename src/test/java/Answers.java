import java.util.function.LongSupplier;
import java.util.function.Supplier;

/**
 * All that an object can be asked, as one text: in parts, each from an object made anew, so that
 * none is called more than 512 times.
 */
final class Answers {
    private static final int FILINGS_OF_A_PART = 3;
    private static final int FILINGS_CALLED = 6;
    private static final int SATELLITES_CALLED = 4;

    private Answers() {
    }

    static String ofAll(Supplier<Orbitregister> made) {
        StringBuilder text = new StringBuilder();
        addSatellitesAndDays(made.get(), text);
        int filings = countFilings(made.get());
        text.append(" filings ").append(filings);
        for (int from = 0; from < filings; from += FILINGS_OF_A_PART) {
            Orbitregister x = made.get();
            for (int filing = from; filing < Math.min(from + FILINGS_OF_A_PART, filings); filing++) {
                addFiling(x, filing, filings, text);
            }
        }
        addWhatComes(made.get(), text);
        return text.toString();
    }

    private static void addSatellitesAndDays(Orbitregister x, StringBuilder text) {
        text.append("day ").append(x.day());
        int satellites = countSatellites(x);
        text.append(" satellites ").append(satellites);
        for (int satellite = 0; satellite < satellites; satellite++) {
            addSatellite(x, satellite, text);
        }
        text.append(" pieces");
        for (int sector = 0; sector < 36; sector++) {
            text.append(' ').append(x.pieces(sector));
        }
        text.append(" paid");
        for (int land = 0; land < 8; land++) {
            text.append(' ').append(x.paid(land));
        }
    }

    private static void addSatellite(Orbitregister x, int satellite, StringBuilder text) {
        text.append(" |");
        for (int what = 0; what <= 6; what++) {
            text.append(' ').append(x.satelliteOf(satellite, what));
        }
    }

    private static void addFiling(Orbitregister x, int filing, int filings, StringBuilder text) {
        text.append(" |");
        for (int what = 0; what <= 8; what++) {
            text.append(' ').append(x.filingOf(filing, what));
        }
        text.append(" anew ").append(x.stateAnew(filing));
        text.append(" needs ").append(x.needs(filing));
        text.append(" bears ").append(x.bears(filing));
        text.append(" first ").append(x.first(x.filingOf(filing, 1), x.filingOf(filing, 2)));
        for (int to = 0; to < filings; to++) {
            text.append(" to ").append(x.harm(filing, to)).append(',').append(x.allowed(filing, to));
        }
    }

    /** What is held but can't be asked, as the next number and date, shows in later calls. */
    private static void addWhatComes(Orbitregister x, StringBuilder text) {
        text.append(" then");
        say(text, () -> x.file(0, 0, 0, 1));
        say(text, () -> x.launch(1, 0, 0, false));
        for (int filing = 0; filing < FILINGS_CALLED; filing++) {
            callForFiling(x, filing, text);
        }
        say(text, () -> x.pass(50));
        for (int satellite = 0; satellite < SATELLITES_CALLED; satellite++) {
            callForSatellite(x, satellite, text);
        }
        say(text, () -> x.pass(50));
        say(text, () -> x.pass(300));
        addSatellitesAndDays(x, text);
        for (int filing = 0; filing < FILINGS_CALLED; filing++) {
            int f = filing;
            say(text, () -> x.filingOf(f, 4));
            say(text, () -> x.filingOf(f, 5));
            say(text, () -> x.filingOf(f, 8));
            say(text, () -> x.stateAnew(f));
        }
    }

    private static void callForFiling(Orbitregister x, int filing, StringBuilder text) {
        say(text, () -> x.inform(filing, true) ? 1 : 0);
        for (int satellite = 0; satellite < SATELLITES_CALLED; satellite++) {
            int s = satellite;
            say(text, () -> x.use(filing, s));
        }
        for (int of = 0; of < filing; of++) {
            int f = of;
            say(text, () -> x.complain(f, filing) ? 1 : 0);
        }
        say(text, () -> x.agree(filing, 0, 30));
        say(text, () -> x.change(filing, 5 * filing, 2 + filing) ? 1 : 0);
    }

    private static void callForSatellite(Orbitregister x, int satellite, StringBuilder text) {
        for (int other = 0; other < SATELLITES_CALLED; other++) {
            int s = other;
            say(text, () -> x.near(satellite, s));
        }
        say(text, () -> x.move(satellite, 99));
        say(text, () -> x.claim(satellite, 7, true, false));
    }

    private static void say(StringBuilder text, LongSupplier call) {
        text.append(' ');
        try {
            text.append(call.getAsLong());
        } catch (RuntimeException e) {
            text.append(e.getClass().getSimpleName());
        }
    }

    private static int countFilings(Orbitregister x) {
        int count = 0;
        try {
            while (count <= 40) {
                x.filingOf(count, 0);
                count++;
            }
        } catch (IndexOutOfBoundsException e) {
            return count;
        }
        return count;
    }

    private static int countSatellites(Orbitregister x) {
        int count = 0;
        try {
            while (count <= 16) {
                x.satelliteOf(count, 0);
                count++;
            }
        } catch (IndexOutOfBoundsException e) {
            return count;
        }
        return count;
    }
}
