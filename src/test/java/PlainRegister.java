import java.util.ArrayList;
import java.util.List;
import java.util.TreeSet;

/**
 * The document once more, in objects and lists and day by day, to compare answers with.
 * An answer is a number; an exception is one of the three numbers below.
 */
final class PlainRegister {
    static final long BOUNDS = -1000001;
    static final long ARGUMENT = -1000002;
    static final long STATE = -1000003;

    private static final class Filing {
        int land;
        int slot;
        int band;
        int power;
        int date;
        String state = "FILED";
        boolean risky;
        Satellite server;
        int told;
        int suspended;
    }

    private static final class Satellite {
        int number;
        TreeSet<Integer> states = new TreeSet<>();
        int register;
        String state = "ACTIVE";
        Integer slot;
        int fuel;
        boolean auto;
        int came;
    }

    private static final class Agreement {
        Filing one;
        Filing two;
        int harm;
    }

    private final List<Filing> filings = new ArrayList<>();
    private final List<Satellite> satellites = new ArrayList<>();
    private final List<Agreement> agreements = new ArrayList<>();
    private int[] debris = new int[36];
    private final long[] paid = new long[8];
    private int day = 0;
    private int dates = 0;

    private boolean noFiling(int f) {
        return f < 0 || f >= filings.size();
    }

    private boolean noSatellite(int s) {
        return s < 0 || s >= satellites.size();
    }

    private static boolean outside(int x, int low, int high) {
        return x < low || x > high;
    }

    private int harmFrom(Filing f, int slot, int power, Filing to) {
        if (f == to || f.band != to.band || f.state.equals("LAPSED") || to.state.equals("LAPSED")) {
            return 0;
        }
        int right = ((slot - to.slot) % 360 + 360) % 360;
        int left = ((to.slot - slot) % 360 + 360) % 360;
        int apart = right < left ? right : left;
        return apart >= 12 ? 0 : power * (12 - apart);
    }

    private int harmOf(Filing f, Filing to) {
        return harmFrom(f, f.slot, f.power, to);
    }

    private Agreement agreement(Filing f, Filing g) {
        for (Agreement a : agreements) {
            if (a.one == f && a.two == g || a.one == g && a.two == f) {
                return a;
            }
        }
        return null;
    }

    private int limit(Filing f, Filing g) {
        Agreement a = agreement(f, g);
        return a == null ? 20 : a.harm;
    }

    private int needsOf(Filing f) {
        int n = 0;
        for (Filing g : filings) {
            if (g.date < f.date && harmOf(f, g) > limit(f, g)) {
                n++;
            }
        }
        return n;
    }

    private int bearsOf(Filing f) {
        int sum = 0;
        for (Filing g : filings) {
            if (g.date > f.date && g.state.equals("IN_USE")) {
                sum += harmOf(g, f);
            }
        }
        return sum;
    }

    private void suspend(Filing f) {
        f.state = "SUSPENDED";
        f.server = null;
        f.suspended = day;
    }

    private int gone(Satellite s) {
        int n = 0;
        for (Filing f : filings) {
            if (f.server == s) {
                suspend(f);
                n++;
            }
        }
        return n;
    }

    private static int number(String state) {
        return List.of("FILED", "NOTIFIED", "IN_USE", "SUSPENDED", "LAPSED").indexOf(state);
    }

    long file(int land, int slot, int band, int power) {
        if (outside(land, 0, 7) || outside(slot, 0, 359) || outside(band, 0, 4)) {
            return BOUNDS;
        }
        if (outside(power, 1, 50)) {
            return ARGUMENT;
        }
        if (filings.size() == 40) {
            return STATE;
        }
        Filing f = new Filing();
        f.land = land;
        f.slot = slot;
        f.band = band;
        f.power = power;
        f.date = dates++;
        f.told = day;
        filings.add(f);
        return filings.size() - 1;
    }

    long agree(int filing, int other, int harm) {
        if (noFiling(filing) || noFiling(other)) {
            return BOUNDS;
        }
        if (filing == other || outside(harm, 0, 600)) {
            return ARGUMENT;
        }
        Filing f = filings.get(filing);
        Filing g = filings.get(other);
        if (f.state.equals("LAPSED") || g.state.equals("LAPSED") || f.band != g.band) {
            return STATE;
        }
        int was = limit(f, g);
        agreements.remove(agreement(f, g));
        Agreement a = new Agreement();
        a.one = f;
        a.two = g;
        a.harm = harm;
        agreements.add(a);
        return was;
    }

    long inform(int filing, boolean atRisk) {
        if (noFiling(filing)) {
            return BOUNDS;
        }
        Filing f = filings.get(filing);
        boolean clear = needsOf(f) == 0;
        if (!f.state.equals("FILED") || !clear && !atRisk) {
            return STATE;
        }
        f.state = "NOTIFIED";
        f.risky = !clear;
        return clear ? 1 : 0;
    }

    long change(int filing, int slot, int power) {
        if (noFiling(filing) || outside(slot, 0, 359)) {
            return BOUNDS;
        }
        if (outside(power, 1, 50)) {
            return ARGUMENT;
        }
        Filing f = filings.get(filing);
        if (f.state.equals("LAPSED")) {
            return STATE;
        }
        boolean keeps = true;
        for (Filing g : filings) {
            if (!g.state.equals("LAPSED") && harmFrom(f, slot, power, g) > harmOf(f, g)) {
                keeps = false;
            }
        }
        if (!keeps) {
            f.date = dates++;
        }
        if (f.state.equals("IN_USE") && slot != f.slot) {
            suspend(f);
        }
        f.slot = slot;
        f.power = power;
        return keeps ? 1 : 0;
    }

    long withdraw(int filing) {
        if (noFiling(filing)) {
            return BOUNDS;
        }
        Filing f = filings.get(filing);
        if (f.state.equals("LAPSED")) {
            return STATE;
        }
        int was = number(f.state);
        f.state = "LAPSED";
        f.server = null;
        return was;
    }

    long use(int filing, int satellite) {
        if (noFiling(filing) || noSatellite(satellite)) {
            return BOUNDS;
        }
        Filing f = filings.get(filing);
        Satellite s = satellites.get(satellite);
        boolean notified = f.state.equals("NOTIFIED");
        if (!notified && !f.state.equals("SUSPENDED")) {
            return STATE;
        }
        if (!s.state.equals("ACTIVE") || s.slot != f.slot || notified && day - s.came < 90) {
            return STATE;
        }
        f.state = "IN_USE";
        f.server = s;
        return bearsOf(f);
    }

    long complain(int filing, int of) {
        if (noFiling(filing) || noFiling(of)) {
            return BOUNDS;
        }
        Filing f = filings.get(filing);
        Filing g = filings.get(of);
        if (!f.state.equals("IN_USE") || !g.state.equals("IN_USE")) {
            return STATE;
        }
        if (g.risky && g.date > f.date && harmOf(g, f) > limit(g, f)) {
            suspend(g);
            return 1;
        }
        return 0;
    }

    long launch(int states, int slot, int fuel, boolean auto) {
        if (outside(slot, 0, 359)) {
            return BOUNDS;
        }
        if (outside(states, 1, 255) || outside(fuel, 0, 20)) {
            return ARGUMENT;
        }
        if (satellites.size() == 16) {
            return STATE;
        }
        Satellite s = new Satellite();
        s.number = satellites.size();
        int rest = states;
        for (int land = 0; land < 8; land++) {
            if (rest % 2 == 1) {
                s.states.add(land);
            }
            rest /= 2;
        }
        s.register = s.states.first();
        s.slot = slot;
        s.fuel = fuel;
        s.auto = auto;
        s.came = day;
        satellites.add(s);
        return s.number;
    }

    long register(int satellite, int land) {
        if (noSatellite(satellite) || outside(land, 0, 7)) {
            return BOUNDS;
        }
        Satellite s = satellites.get(satellite);
        if (!s.states.contains(land)) {
            return STATE;
        }
        int was = s.register;
        s.register = land;
        return was;
    }

    long move(int satellite, int slot) {
        if (noSatellite(satellite) || outside(slot, 0, 359)) {
            return BOUNDS;
        }
        Satellite s = satellites.get(satellite);
        if (!s.state.equals("ACTIVE") || s.fuel == 0 || s.slot == slot) {
            return STATE;
        }
        s.fuel--;
        s.slot = slot;
        s.came = day;
        return gone(s);
    }

    long bury(int satellite) {
        if (noSatellite(satellite)) {
            return BOUNDS;
        }
        Satellite s = satellites.get(satellite);
        if (!s.state.equals("ACTIVE") || s.fuel < 2) {
            return STATE;
        }
        s.fuel -= 2;
        s.slot = null;
        s.state = "GRAVE";
        return gone(s);
    }

    long die(int satellite) {
        if (noSatellite(satellite)) {
            return BOUNDS;
        }
        Satellite s = satellites.get(satellite);
        if (!s.state.equals("ACTIVE")) {
            return STATE;
        }
        s.state = "WRECK";
        return gone(s);
    }

    private void crash(Satellite s, Satellite t) {
        s.state = "WRECK";
        t.state = "WRECK";
        gone(s);
        gone(t);
        debris[s.slot / 10] += 100;
    }

    long near(int satellite, int other) {
        if (noSatellite(satellite) || noSatellite(other)) {
            return BOUNDS;
        }
        if (satellite == other) {
            return ARGUMENT;
        }
        Satellite s = satellites.get(satellite);
        Satellite t = satellites.get(other);
        if (s.slot == null || t.slot == null || !s.slot.equals(t.slot)) {
            return STATE;
        }
        List<Satellite> able = new ArrayList<>();
        for (Satellite u : List.of(s, t)) {
            if (u.state.equals("ACTIVE") && u.fuel > 0) {
                able.add(u);
            }
        }
        if (able.isEmpty()) {
            crash(s, t);
            return 0;
        }
        if (able.size() == 2 && s.auto && t.auto) {
            s.fuel--;
            t.fuel--;
            if ((s.number + t.number) % 2 == 1) {
                return 3;
            }
            crash(s, t);
            return 4;
        }
        Satellite dodging = able.get(0);
        if (able.size() == 2 && t.number > s.number) {
            dodging = t;
        }
        dodging.fuel--;
        return dodging == s ? 1 : 2;
    }

    long claim(int satellite, int amount, boolean ground, boolean fault) {
        if (noSatellite(satellite)) {
            return BOUNDS;
        }
        if (outside(amount, 1, 1000000)) {
            return ARGUMENT;
        }
        long sum = 0;
        Satellite s = satellites.get(satellite);
        if (ground || fault) {
            for (int land : s.states) {
                long share = amount / s.states.size();
                share += amount % s.states.size() == 0 ? 0 : 1;
                paid[land] += share;
                sum += share;
            }
        }
        return sum;
    }

    long pass(int days) {
        if (outside(days, 1, 400)) {
            return ARGUMENT;
        }
        if (day + days > 5000) {
            return STATE;
        }
        for (int i = 0; i < days; i++) {
            begin();
        }
        return day;
    }

    private void begin() {
        day++;
        for (Filing f : filings) {
            boolean unused = f.state.equals("FILED") || f.state.equals("NOTIFIED");
            boolean old = unused && day == f.told + 700;
            if (old || f.state.equals("SUSPENDED") && day == f.suspended + 300) {
                f.state = "LAPSED";
            }
        }
        if (day % 50 == 0) {
            int[] next = debris.clone();
            for (int sector = 0; sector < 36; sector++) {
                next[sector] -= debris[sector] / 10;
                next[(sector + 1) % 36] += debris[sector] / 10;
            }
            debris = next;
        }
    }

    long day() {
        return day;
    }

    long filingOf(int filing, int what) {
        if (noFiling(filing)) {
            return BOUNDS;
        }
        if (outside(what, 0, 8)) {
            return ARGUMENT;
        }
        Filing f = filings.get(filing);
        long ends = switch (f.state) {
            case "FILED", "NOTIFIED" -> f.told + 700;
            case "SUSPENDED" -> f.suspended + 300;
            default -> -1;
        };
        long server = f.server == null ? -1 : f.server.number;
        long[] all = {f.land, f.slot, f.band, f.power, f.date, number(f.state), f.risky ? 1 : 0, server, ends};
        return all[what];
    }

    long stateAnew(int filing) {
        return filingOf(filing, 5);
    }

    long harm(int filing, int to) {
        if (noFiling(filing) || noFiling(to)) {
            return BOUNDS;
        }
        return harmOf(filings.get(filing), filings.get(to));
    }

    long allowed(int filing, int to) {
        if (noFiling(filing) || noFiling(to)) {
            return BOUNDS;
        }
        Filing f = filings.get(filing);
        Filing g = filings.get(to);
        if (g.date >= f.date || f.state.equals("LAPSED") || g.state.equals("LAPSED")) {
            return -1;
        }
        return limit(f, g);
    }

    long needs(int filing) {
        return noFiling(filing) ? BOUNDS : needsOf(filings.get(filing));
    }

    long bears(int filing) {
        return noFiling(filing) ? BOUNDS : bearsOf(filings.get(filing));
    }

    long first(int slot, int band) {
        if (outside(slot, 0, 359) || outside(band, 0, 4)) {
            return BOUNDS;
        }
        Filing best = null;
        for (Filing f : filings) {
            if (!f.state.equals("LAPSED") && f.slot == slot && f.band == band
                    && (best == null || f.date < best.date)) {
                best = f;
            }
        }
        return filings.indexOf(best);
    }

    long satelliteOf(int satellite, int what) {
        if (noSatellite(satellite)) {
            return BOUNDS;
        }
        if (outside(what, 0, 6)) {
            return ARGUMENT;
        }
        Satellite s = satellites.get(satellite);
        long states = 0;
        for (int land : s.states) {
            states += 1L << land;
        }
        long served = filings.stream().filter(f -> f.server == s).count();
        long state = List.of("ACTIVE", "GRAVE", "WRECK").indexOf(s.state);
        long slot = s.slot == null ? -1 : s.slot;
        long days = s.slot == null ? -1 : day - s.came;
        long[] all = {states, s.register, state, slot, s.fuel, days, served};
        return all[what];
    }

    long pieces(int sector) {
        return outside(sector, 0, 35) ? BOUNDS : debris[sector];
    }

    long paid(int land) {
        return outside(land, 0, 7) ? BOUNDS : paid[land];
    }
}
