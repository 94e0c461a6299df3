/** All that an object can be asked, as one text, in fewer than 400 calls. */
final class Answers {
    private static final int MOST_FILINGS_ASKED = 6;

    private Answers() {
    }

    static String of(Orbitregister x) {
        StringBuilder text = new StringBuilder();
        text.append("day ").append(x.day());
        int filings = countFilings(x);
        text.append(" filings ").append(filings);
        int asked = Math.min(filings, MOST_FILINGS_ASKED);
        for (int filing = 0; filing < asked; filing++) {
            addFiling(x, filing, asked, text);
        }
        int satellites = countSatellites(x);
        text.append(" satellites ").append(satellites);
        for (int satellite = 0; satellite < satellites; satellite++) {
            text.append(" |");
            for (int what = 0; what <= 6; what++) {
                text.append(' ').append(x.satelliteOf(satellite, what));
            }
        }
        text.append(" pieces");
        for (int sector = 0; sector < 36; sector++) {
            text.append(' ').append(x.pieces(sector));
        }
        text.append(" paid");
        for (int land = 0; land < 8; land++) {
            text.append(' ').append(x.paid(land));
        }
        return text.toString();
    }

    private static void addFiling(Orbitregister x, int filing, int asked, StringBuilder text) {
        text.append(" |");
        for (int what = 0; what <= 8; what++) {
            text.append(' ').append(x.filingOf(filing, what));
        }
        text.append(" anew ").append(x.stateAnew(filing));
        text.append(" needs ").append(x.needs(filing));
        text.append(" bears ").append(x.bears(filing));
        text.append(" first ").append(x.first(x.filingOf(filing, 1), x.filingOf(filing, 2)));
        for (int to = 0; to < asked; to++) {
            text.append(" to ").append(x.harm(filing, to)).append(',').append(x.allowed(filing, to));
        }
    }

    private static int countFilings(Orbitregister x) {
        int count = 0;
        try {
            while (count <= 40) {
                x.filingOf(count, 0);
                count++;
            }
        } catch (IndexOutOfBoundsException e) {
            return count;
        }
        return count;
    }

    private static int countSatellites(Orbitregister x) {
        int count = 0;
        try {
            while (count <= 16) {
                x.satelliteOf(count, 0);
                count++;
            }
        } catch (IndexOutOfBoundsException e) {
            return count;
        }
        return count;
    }
}
