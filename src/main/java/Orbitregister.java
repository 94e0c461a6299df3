/**
 * Who may circle where: filings for places of a ring, the satellites that serve them,
 * and what becomes of both as days pass.
 */
public final class Orbitregister {
    public static final int NONE = -1;

    public static final int FILED = 0;
    public static final int NOTIFIED = 1;
    public static final int IN_USE = 2;
    public static final int SUSPENDED = 3;
    public static final int LAPSED = 4;

    public static final int ACTIVE = 0;
    public static final int GRAVE = 1;
    public static final int WRECK = 2;

    public static final int COLLIDED = 0;
    public static final int FIRST = 1;
    public static final int SECOND = 2;
    public static final int BOTH = 3;
    public static final int INTO = 4;

    private static final int MOST_CALLS = 512;
    private static final int MOST_FILINGS = 40;
    private static final int MOST_SATELLITES = 16;
    private static final int LAST_DAY = 5000;
    private static final int MOST_DAYS_PASSED = 400;

    private static final int LANDS = 8;
    private static final int ALL_LANDS = 255;
    private static final int SLOTS = 360;
    private static final int BANDS = 5;
    private static final int SECTORS = 36;
    private static final int SLOTS_OF_A_SECTOR = 10;

    private static final int MOST_POWER = 50;
    private static final int MOST_AGREED_HARM = 600;
    private static final int HARM_REACH = 12;
    private static final int HARM_WITHOUT_AGREEMENT = 20;

    private static final int DAYS_TO_USE = 700;
    private static final int DAYS_SUSPENDED = 300;
    private static final int DAYS_BEFORE_USE = 90;
    private static final int DAYS_OF_DRIFT = 50;

    private static final int MOST_FUEL = 20;
    private static final int FUEL_TO_MOVE = 1;
    private static final int FUEL_TO_BURY = 2;
    private static final int FUEL_TO_DODGE = 1;

    private static final int PIECES_OF_A_COLLISION = 100;
    private static final int PIECES_PER_DRIFTING_ONE = 10;
    private static final int MOST_AMOUNT = 1000000;

    private static final int LAST_OF_A_FILING = 8;
    private static final int LAST_OF_A_SATELLITE = 6;

    private static final int TOLD_FILING = 0;
    private static final int TOLD_NOTICE = 1;
    private static final int TOLD_CHANGE = 2;
    private static final int TOLD_WITHDRAWAL = 3;
    private static final int TOLD_USE = 4;
    private static final int TOLD_COMPLAINT = 5;
    private static final int TOLD_DEPARTURE = 6;
    private static final int TOLD_COLLISION = 7;

    private final Filings filings;
    private final Satellites satellites;
    private final Journal journal;
    private final Examination examination;
    private final int[] piecesIn;
    private final long[] paidBy;
    private int today;

    public Orbitregister() {
        filings = new Filings();
        satellites = new Satellites();
        journal = new Journal();
        examination = new Examination();
        piecesIn = new int[SECTORS];
        paidBy = new long[LANDS];
        today = 0;
    }

    // ---- filings

    public int file(int land, int slot, int band, int power)
            throws IndexOutOfBoundsException, IllegalArgumentException, IllegalStateException {
        checkLand(land);
        checkSlot(slot);
        checkBand(band);
        checkPower(power);
        if (filings.count >= MOST_FILINGS) {
            throw new IllegalStateException("there are 40 filings");
        }
        int filing = filings.add(land, slot, band, power, today);
        journal.note(TOLD_FILING, today, filing, slot);
        return filing;
    }

    public int agree(int filing, int other, int harm)
            throws IndexOutOfBoundsException, IllegalArgumentException, IllegalStateException {
        checkFiling(filing);
        checkFiling(other);
        if (filing == other) {
            throw new IllegalArgumentException("a filing does not agree with itself");
        }
        if (harm < 0 || harm > MOST_AGREED_HARM) {
            throw new IllegalArgumentException("harm is out of range");
        }
        checkNotLapsed(filing);
        checkNotLapsed(other);
        if (filings.band[filing] != filings.band[other]) {
            throw new IllegalStateException("their bands are unlike");
        }
        int before = filings.limitOfPair(filing, other);
        filings.setLimitOfPair(filing, other, harm);
        return before;
    }

    public boolean inform(int filing, boolean atRisk)
            throws IndexOutOfBoundsException, IllegalStateException {
        checkFiling(filing);
        if (filings.state[filing] != FILED) {
            throw new IllegalStateException("it is not filed");
        }
        boolean isClear = filings.countOverLimit(filing) == 0;
        if (!isClear && !atRisk) {
            throw new IllegalStateException("it is not clear");
        }
        filings.state[filing] = NOTIFIED;
        filings.isUnclear[filing] = !isClear;
        journal.note(TOLD_NOTICE, today, filing, NONE);
        return isClear;
    }

    public boolean change(int filing, int slot, int power)
            throws IndexOutOfBoundsException, IllegalArgumentException, IllegalStateException {
        checkFiling(filing);
        checkSlot(slot);
        checkPower(power);
        checkNotLapsed(filing);
        boolean keepsDate = !filings.wouldHarmMore(filing, slot, power);
        if (!keepsDate) {
            filings.renewDate(filing);
        }
        if (filings.state[filing] == IN_USE && filings.slot[filing] != slot) {
            filings.suspend(filing, today);
        }
        filings.slot[filing] = slot;
        filings.power[filing] = power;
        journal.note(TOLD_CHANGE, today, filing, slot);
        return keepsDate;
    }

    public int withdraw(int filing) throws IndexOutOfBoundsException, IllegalStateException {
        checkFiling(filing);
        checkNotLapsed(filing);
        int before = filings.state[filing];
        filings.lapse(filing);
        journal.note(TOLD_WITHDRAWAL, today, filing, NONE);
        return before;
    }

    public int use(int filing, int satellite) throws IndexOutOfBoundsException, IllegalStateException {
        checkFiling(filing);
        checkSatellite(satellite);
        int before = filings.state[filing];
        if (before != NOTIFIED && before != SUSPENDED) {
            throw new IllegalStateException("it is neither notified nor suspended");
        }
        checkActive(satellite);
        if (satellites.slot[satellite] != filings.slot[filing]) {
            throw new IllegalStateException("the satellite is not in its slot");
        }
        if (before == NOTIFIED && today - satellites.since[satellite] < DAYS_BEFORE_USE) {
            throw new IllegalStateException("the satellite is not there for 90 days");
        }
        filings.state[filing] = IN_USE;
        filings.server[filing] = satellite;
        journal.note(TOLD_USE, today, filing, satellite);
        return filings.harmBorne(filing);
    }

    public boolean complain(int filing, int of) throws IndexOutOfBoundsException, IllegalStateException {
        checkFiling(filing);
        checkFiling(of);
        checkInUse(filing);
        checkInUse(of);
        boolean isUpheld = filings.isUnclear[of] && filings.isOverLimit(of, filing);
        if (isUpheld) {
            filings.suspend(of, today);
            journal.note(TOLD_COMPLAINT, today, of, NONE);
        }
        return isUpheld;
    }

    // ---- satellites, days

    public int launch(int states, int slot, int fuel, boolean isAuto)
            throws IndexOutOfBoundsException, IllegalArgumentException, IllegalStateException {
        checkSlot(slot);
        if (states < 1 || states > ALL_LANDS) {
            throw new IllegalArgumentException("states are out of range");
        }
        if (fuel < 0 || fuel > MOST_FUEL) {
            throw new IllegalArgumentException("fuel is out of range");
        }
        if (satellites.count >= MOST_SATELLITES) {
            throw new IllegalStateException("there are 16 satellites");
        }
        return satellites.add(states, slot, fuel, isAuto, today);
    }

    public int register(int satellite, int land) throws IndexOutOfBoundsException, IllegalStateException {
        checkSatellite(satellite);
        checkLand(land);
        if (!satellites.isLaunchedBy(satellite, land)) {
            throw new IllegalStateException("that land did not launch it");
        }
        int before = satellites.registrar[satellite];
        satellites.registrar[satellite] = land;
        return before;
    }

    public int move(int satellite, int slot) throws IndexOutOfBoundsException, IllegalStateException {
        checkSatellite(satellite);
        checkSlot(slot);
        checkActive(satellite);
        checkFuel(satellite, FUEL_TO_MOVE);
        if (satellites.slot[satellite] == slot) {
            throw new IllegalStateException("it is in that slot");
        }
        satellites.fuel[satellite] -= FUEL_TO_MOVE;
        satellites.slot[satellite] = slot;
        satellites.since[satellite] = today;
        return depart(satellite);
    }

    public int bury(int satellite) throws IndexOutOfBoundsException, IllegalStateException {
        checkSatellite(satellite);
        checkActive(satellite);
        checkFuel(satellite, FUEL_TO_BURY);
        satellites.fuel[satellite] -= FUEL_TO_BURY;
        satellites.state[satellite] = GRAVE;
        satellites.slot[satellite] = NONE;
        return depart(satellite);
    }

    public int die(int satellite) throws IndexOutOfBoundsException, IllegalStateException {
        checkSatellite(satellite);
        checkActive(satellite);
        satellites.state[satellite] = WRECK;
        return depart(satellite);
    }

    public int near(int satellite, int other)
            throws IndexOutOfBoundsException, IllegalArgumentException, IllegalStateException {
        checkSatellite(satellite);
        checkSatellite(other);
        if (satellite == other) {
            throw new IllegalArgumentException("a satellite does not come near itself");
        }
        if (satellites.state[satellite] == GRAVE || satellites.state[other] == GRAVE) {
            throw new IllegalStateException("one is in a grave");
        }
        if (satellites.slot[satellite] != satellites.slot[other]) {
            throw new IllegalStateException("they are in unlike slots");
        }
        boolean firstCan = satellites.canDodge(satellite);
        boolean secondCan = satellites.canDodge(other);
        if (firstCan && secondCan) {
            return meetAsBothCanDodge(satellite, other);
        }
        if (firstCan) {
            satellites.dodge(satellite);
            return FIRST;
        }
        if (secondCan) {
            satellites.dodge(other);
            return SECOND;
        }
        collide(satellite, other);
        return COLLIDED;
    }

    public int claim(int satellite, int amount, boolean isGround, boolean isFault)
            throws IndexOutOfBoundsException, IllegalArgumentException {
        checkSatellite(satellite);
        if (amount < 1 || amount > MOST_AMOUNT) {
            throw new IllegalArgumentException("amount is out of range");
        }
        int payers = Integer.bitCount(satellites.states[satellite]);
        if (payers == 0 || !(isGround || isFault)) {
            return 0;
        }
        int share = (amount + payers - 1) / payers;
        for (int land = 0; land < LANDS; land++) {
            if (satellites.isLaunchedBy(satellite, land)) {
                paidBy[land] += share;
            }
        }
        return share * payers;
    }

    public int pass(int days) throws IllegalArgumentException, IllegalStateException {
        if (days < 1 || days > MOST_DAYS_PASSED) {
            throw new IllegalArgumentException("days are out of range");
        }
        if (today + days > LAST_DAY) {
            throw new IllegalStateException("it would be above day 5000");
        }
        int driftsBefore = today / DAYS_OF_DRIFT;
        today += days;
        int driftsNow = today / DAYS_OF_DRIFT;
        for (int i = driftsBefore; i < driftsNow; i++) {
            driftPieces();
        }
        filings.lapseThoseDue(today);
        return today;
    }

    // ---- what is asked

    public int day() {
        return today;
    }

    public int filingOf(int filing, int what) throws IndexOutOfBoundsException, IllegalArgumentException {
        checkFiling(filing);
        if (what < 0 || what > LAST_OF_A_FILING) {
            throw new IllegalArgumentException("what is out of range");
        }
        switch (what) {
            case 0:
                return filings.land[filing];
            case 1:
                return filings.slot[filing];
            case 2:
                return filings.band[filing];
            case 3:
                return filings.power[filing];
            case 4:
                return filings.date[filing];
            case 5:
                return filings.state[filing];
            case 6:
                return filings.isUnclear[filing] ? 1 : 0;
            case 7:
                return filings.server[filing];
            default:
                return lapseDay(filings.state[filing], filings.toldOn[filing], filings.suspendedOn[filing]);
        }
    }

    public int stateAnew(int filing) throws IndexOutOfBoundsException {
        checkFiling(filing);
        return examination.examine(journal, filing, today);
    }

    public int harm(int filing, int to) throws IndexOutOfBoundsException {
        checkFiling(filing);
        checkFiling(to);
        return filings.harmTo(filing, to);
    }

    public int allowed(int filing, int to) throws IndexOutOfBoundsException {
        checkFiling(filing);
        checkFiling(to);
        if (!filings.isAhead(to, filing) || filings.isLapsed(filing) || filings.isLapsed(to)) {
            return NONE;
        }
        return filings.limitOfPair(filing, to);
    }

    public int needs(int filing) throws IndexOutOfBoundsException {
        checkFiling(filing);
        return filings.countOverLimit(filing);
    }

    public int bears(int filing) throws IndexOutOfBoundsException {
        checkFiling(filing);
        return filings.harmBorne(filing);
    }

    public int first(int slot, int band) throws IndexOutOfBoundsException {
        checkSlot(slot);
        checkBand(band);
        return filings.findFirst(slot, band);
    }

    public int satelliteOf(int satellite, int what) throws IndexOutOfBoundsException, IllegalArgumentException {
        checkSatellite(satellite);
        if (what < 0 || what > LAST_OF_A_SATELLITE) {
            throw new IllegalArgumentException("what is out of range");
        }
        switch (what) {
            case 0:
                return satellites.states[satellite];
            case 1:
                return satellites.registrar[satellite];
            case 2:
                return satellites.state[satellite];
            case 3:
                return satellites.slot[satellite];
            case 4:
                return satellites.fuel[satellite];
            case 5:
                return satellites.state[satellite] == GRAVE ? NONE : today - satellites.since[satellite];
            default:
                return filings.countServedBy(satellite);
        }
    }

    public int pieces(int sector) throws IndexOutOfBoundsException {
        if (sector < 0 || sector >= SECTORS) {
            throw new IndexOutOfBoundsException("no such sector");
        }
        return piecesIn[sector];
    }

    public long paid(int land) throws IndexOutOfBoundsException {
        checkLand(land);
        return paidBy[land];
    }

    // ---- what is checked

    private void checkLand(int land) {
        if (land < 0 || land >= LANDS) {
            throw new IndexOutOfBoundsException("no such land");
        }
    }

    private void checkSlot(int slot) {
        if (slot < 0 || slot >= SLOTS) {
            throw new IndexOutOfBoundsException("no such slot");
        }
    }

    private void checkBand(int band) {
        if (band < 0 || band >= BANDS) {
            throw new IndexOutOfBoundsException("no such band");
        }
    }

    private void checkFiling(int filing) {
        if (filing < 0 || filing >= filings.count) {
            throw new IndexOutOfBoundsException("no such filing");
        }
    }

    private void checkSatellite(int satellite) {
        if (satellite < 0 || satellite >= satellites.count) {
            throw new IndexOutOfBoundsException("no such satellite");
        }
    }

    private void checkPower(int power) {
        if (power < 1 || power > MOST_POWER) {
            throw new IllegalArgumentException("power is out of range");
        }
    }

    private void checkNotLapsed(int filing) {
        if (filings.isLapsed(filing)) {
            throw new IllegalStateException("the filing is lapsed");
        }
    }

    private void checkInUse(int filing) {
        if (filings.state[filing] != IN_USE) {
            throw new IllegalStateException("the filing is not in use");
        }
    }

    private void checkActive(int satellite) {
        if (satellites.state[satellite] != ACTIVE) {
            throw new IllegalStateException("the satellite is not active");
        }
    }

    private void checkFuel(int satellite, int atLeast) {
        if (satellites.fuel[satellite] < atLeast) {
            throw new IllegalStateException("the satellite has too little fuel");
        }
    }

    // ---- what comes of it

    private int depart(int satellite) {
        journal.note(TOLD_DEPARTURE, today, satellite, NONE);
        return filings.suspendServedBy(satellite, today);
    }

    private int meetAsBothCanDodge(int satellite, int other) {
        if (satellites.isAuto[satellite] && satellites.isAuto[other]) {
            satellites.dodge(satellite);
            satellites.dodge(other);
            boolean areAlike = (satellite & 1) == (other & 1);
            if (areAlike) {
                collide(satellite, other);
            }
            return areAlike ? INTO : BOTH;
        }
        satellites.dodge(Math.max(satellite, other));
        return satellite > other ? FIRST : SECOND;
    }

    private void collide(int satellite, int other) {
        int sector = satellites.slot[satellite] / SLOTS_OF_A_SECTOR;
        if (sector >= 0 && sector < SECTORS) {
            piecesIn[sector] += PIECES_OF_A_COLLISION;
        }
        satellites.state[satellite] = WRECK;
        satellites.state[other] = WRECK;
        filings.suspendServedBy(satellite, today);
        filings.suspendServedBy(other, today);
        journal.note(TOLD_COLLISION, today, satellite, other);
    }

    private void driftPieces() {
        int coming = piecesIn[SECTORS - 1] / PIECES_PER_DRIFTING_ONE;
        for (int sector = 0; sector < SECTORS; sector++) {
            // all go at once: what comes was reckoned before it came to the sector ahead
            int going = piecesIn[sector] / PIECES_PER_DRIFTING_ONE;
            piecesIn[sector] += coming - going;
            coming = going;
        }
    }

    private static int lapseDay(int state, int toldOn, int suspendedOn) {
        if (state == FILED || state == NOTIFIED) {
            return toldOn + DAYS_TO_USE;
        }
        return state == SUSPENDED ? suspendedOn + DAYS_SUSPENDED : NONE;
    }

    private static boolean isLapseDue(int state, int toldOn, int suspendedOn, int day) {
        int due = lapseDay(state, toldOn, suspendedOn);
        return due != NONE && due <= day;
    }

    /** All filings by their numbers, a row for each thing that is known of them. */
    private static final class Filings {
        final int[] land = new int[MOST_FILINGS];
        final int[] slot = new int[MOST_FILINGS];
        final int[] band = new int[MOST_FILINGS];
        final int[] power = new int[MOST_FILINGS];
        final int[] date = new int[MOST_FILINGS];
        final int[] state = new int[MOST_FILINGS];
        final boolean[] isUnclear = new boolean[MOST_FILINGS];
        final int[] server = new int[MOST_FILINGS];
        final int[] toldOn = new int[MOST_FILINGS];
        final int[] suspendedOn = new int[MOST_FILINGS];
        final int[] limits = new int[MOST_FILINGS * MOST_FILINGS];
        int count;
        int nextDate;

        int add(int ofLand, int inSlot, int inBand, int ofPower, int day) {
            int filing = count;
            count++;
            land[filing] = ofLand;
            slot[filing] = inSlot;
            band[filing] = inBand;
            power[filing] = ofPower;
            state[filing] = FILED;
            server[filing] = NONE;
            toldOn[filing] = day;
            renewDate(filing);
            for (int other = 0; other < filing; other++) {
                setLimitOfPair(filing, other, HARM_WITHOUT_AGREEMENT);
            }
            return filing;
        }

        void renewDate(int filing) {
            date[filing] = nextDate;
            nextDate++;
        }

        boolean isLapsed(int filing) {
            return state[filing] == LAPSED;
        }

        boolean isAhead(int filing, int of) {
            return date[filing] < date[of];
        }

        int limitOfPair(int filing, int other) {
            return limits[filing * MOST_FILINGS + other];
        }

        void setLimitOfPair(int filing, int other, int harm) {
            // the limit is of the pair, whichever is ahead: it stands in both places
            limits[filing * MOST_FILINGS + other] = harm;
            limits[other * MOST_FILINGS + filing] = harm;
        }

        int harmTo(int filing, int to) {
            return harmFrom(filing, slot[filing], power[filing], to);
        }

        int harmFrom(int filing, int fromSlot, int withPower, int to) {
            if (filing == to || band[filing] != band[to] || isLapsed(filing) || isLapsed(to)) {
                return 0;
            }
            int way = Math.abs(fromSlot - slot[to]);
            int apart = Math.min(way, SLOTS - way);
            return withPower * Math.max(HARM_REACH - apart, 0);
        }

        boolean isOverLimit(int filing, int to) {
            return isAhead(to, filing) && harmTo(filing, to) > limitOfPair(filing, to);
        }

        int countOverLimit(int filing) {
            int over = 0;
            for (int to = 0; to < count; to++) {
                if (isOverLimit(filing, to)) {
                    over++;
                }
            }
            return over;
        }

        boolean wouldHarmMore(int filing, int atSlot, int withPower) {
            for (int to = 0; to < count; to++) {
                if (harmFrom(filing, atSlot, withPower, to) > harmTo(filing, to)) {
                    return true;
                }
            }
            return false;
        }

        int harmBorne(int filing) {
            int sum = 0;
            for (int from = 0; from < count; from++) {
                if (state[from] == IN_USE && isAhead(filing, from)) {
                    sum += harmTo(from, filing);
                }
            }
            return sum;
        }

        int findFirst(int inSlot, int inBand) {
            int found = NONE;
            for (int filing = 0; filing < count; filing++) {
                boolean isThere = !isLapsed(filing) && slot[filing] == inSlot && band[filing] == inBand;
                if (isThere && (found == NONE || isAhead(filing, found))) {
                    found = filing;
                }
            }
            return found;
        }

        int countServedBy(int satellite) {
            int served = 0;
            for (int filing = 0; filing < count; filing++) {
                if (server[filing] == satellite) {
                    served++;
                }
            }
            return served;
        }

        int suspendServedBy(int satellite, int day) {
            int suspended = 0;
            for (int filing = 0; filing < count; filing++) {
                if (server[filing] == satellite) {
                    suspend(filing, day);
                    suspended++;
                }
            }
            return suspended;
        }

        void suspend(int filing, int day) {
            state[filing] = SUSPENDED;
            suspendedOn[filing] = day;
            server[filing] = NONE;
        }

        void lapse(int filing) {
            state[filing] = LAPSED;
            server[filing] = NONE;
        }

        void lapseThoseDue(int day) {
            for (int filing = 0; filing < count; filing++) {
                if (isLapseDue(state[filing], toldOn[filing], suspendedOn[filing], day)) {
                    lapse(filing);
                }
            }
        }
    }

    /** All satellites by their numbers, a row for each thing that is known of them. */
    private static final class Satellites {
        final int[] states = new int[MOST_SATELLITES];
        final int[] registrar = new int[MOST_SATELLITES];
        final int[] state = new int[MOST_SATELLITES];
        final int[] slot = new int[MOST_SATELLITES];
        final int[] fuel = new int[MOST_SATELLITES];
        final int[] since = new int[MOST_SATELLITES];
        final boolean[] isAuto = new boolean[MOST_SATELLITES];
        int count;

        int add(int byStates, int inSlot, int withFuel, boolean dodgesItself, int day) {
            int satellite = count;
            count++;
            states[satellite] = byStates;
            registrar[satellite] = lowestLand(byStates);
            state[satellite] = ACTIVE;
            slot[satellite] = inSlot;
            fuel[satellite] = withFuel;
            since[satellite] = day;
            isAuto[satellite] = dodgesItself;
            return satellite;
        }

        boolean isLaunchedBy(int satellite, int land) {
            return isAmong(states[satellite], land);
        }

        boolean canDodge(int satellite) {
            return state[satellite] == ACTIVE && fuel[satellite] >= FUEL_TO_DODGE;
        }

        void dodge(int satellite) {
            fuel[satellite] -= FUEL_TO_DODGE;
        }

        private static boolean isAmong(int lands, int land) {
            return ((lands >> land) & 1) == 1;
        }

        private static int lowestLand(int lands) {
            for (int land = 0; land < LANDS; land++) {
                if (isAmong(lands, land)) {
                    return land;
                }
            }
            return NONE;
        }
    }

    /** All that was told and bears upon what a filing is, in its order. */
    private static final class Journal {
        final int[] kind = new int[MOST_CALLS];
        final int[] day = new int[MOST_CALLS];
        final int[] subject = new int[MOST_CALLS];
        final int[] detail = new int[MOST_CALLS];
        int count;

        void note(int ofKind, int onDay, int ofSubject, int withDetail) {
            // behind the 512th call nothing is promised, and there is no place for more
            if (count >= MOST_CALLS) {
                return;
            }
            kind[count] = ofKind;
            day[count] = onDay;
            subject[count] = ofSubject;
            detail[count] = withDetail;
            count++;
        }
    }

    /** One filing, followed through the journal from its beginning, apart from what the rows hold. */
    private static final class Examination {
        private int filing;
        private int state;
        private int slot;
        private int server;
        private int toldOn;
        private int suspendedOn;

        int examine(Journal journal, int ofFiling, int day) {
            filing = ofFiling;
            state = NONE;
            server = NONE;
            for (int i = 0; i < journal.count; i++) {
                reach(journal.day[i]);
                hear(journal.kind[i], journal.day[i], journal.subject[i], journal.detail[i]);
            }
            reach(day);
            return state;
        }

        private void reach(int day) {
            if (isLapseDue(state, toldOn, suspendedOn, day)) {
                end();
            }
        }

        private void hear(int kind, int day, int subject, int detail) {
            if (kind == TOLD_DEPARTURE || kind == TOLD_COLLISION) {
                hearOfSatellites(day, subject, detail);
            } else if (subject == filing) {
                hearOfFiling(kind, day, detail);
            }
        }

        private void hearOfSatellites(int day, int satellite, int other) {
            if (server != NONE && (server == satellite || server == other)) {
                interrupt(day);
            }
        }

        private void hearOfFiling(int kind, int day, int detail) {
            switch (kind) {
                case TOLD_FILING:
                    state = FILED;
                    toldOn = day;
                    slot = detail;
                    break;
                case TOLD_NOTICE:
                    state = NOTIFIED;
                    break;
                case TOLD_CHANGE:
                    if (state == IN_USE && slot != detail) {
                        interrupt(day);
                    }
                    slot = detail;
                    break;
                case TOLD_WITHDRAWAL:
                    end();
                    break;
                case TOLD_USE:
                    state = IN_USE;
                    server = detail;
                    break;
                default:
                    interrupt(day);
                    break;
            }
        }

        private void interrupt(int day) {
            state = SUSPENDED;
            suspendedOn = day;
            server = NONE;
        }

        private void end() {
            state = LAPSED;
            server = NONE;
        }
    }
}
