import java.util.TreeMap;
import java.util.function.LongSupplier;

/** Long runs of calls in a fixed order that looks like none, each answer compared with PlainRegister's. */
public final class RunsTest {
    private static final int RUNS = 3000;
    private static final int CALLS = 512;
    private static final String[] NAMES = {
        "file", "agree", "inform", "change", "withdraw", "use", "complain", "launch", "register", "move",
        "bury", "die", "near", "claim", "pass", "day", "filingOf", "stateAnew", "harm", "allowed", "needs",
        "bears", "first", "satelliteOf", "pieces", "paid",
    };
    // how often each call comes: what ends filings and satellites comes seldom
    private static final int[] WEIGHTS = {
        14, 8, 12, 8, 1, 40, 16, 10, 2, 8,
        1, 1, 8, 4, 14, 1, 14, 16, 4, 4, 4,
        4, 5, 12, 4, 3,
    };

    private final int run;
    private final TreeMap<String, Integer> seen;
    private final Orbitregister x = new Orbitregister();
    private final PlainRegister plain = new PlainRegister();
    private long seed;
    private int filings = 0;
    private int satellites = 0;

    private RunsTest(int run, TreeMap<String, Integer> seen) {
        this.run = run;
        this.seen = seen;
        seed = run * 7919L + 17;
    }

    public static void main(String[] args) {
        TreeMap<String, Integer> seen = new TreeMap<>();
        for (int run = 0; run < RUNS; run++) {
            new RunsTest(run, seen).play();
        }
        for (String due : dueToBeSeen()) {
            if (args.length > 0) {
                System.out.println(due + " " + seen.get(due));
            }
            Due.answer("runs have seen " + due, seen.getOrDefault(due, 0) >= 20, true);
        }
        Due.end("RunsTest");
    }

    private static String[] dueToBeSeen() {
        String text = "file:B file:A file:S agree:B agree:A agree:S inform:B inform:S inform:0 inform:1"
            + " change:B change:A change:S change:0 change:1 withdraw:B withdraw:S withdraw:0 withdraw:1"
            + " withdraw:2 withdraw:3 use:B use:S use:0 complain:B complain:S complain:0 complain:1 launch:B"
            + " launch:A launch:S register:B register:S move:B move:S move:0 move:1 move:2 bury:B bury:S bury:1"
            + " die:B die:S die:1 near:B near:A near:S near:0 near:1 near:2 near:3 near:4 claim:B claim:A"
            + " claim:0 pass:A pass:S filingOf:B filingOf:A stateAnew:B stateAnew:0 stateAnew:1 stateAnew:2"
            + " stateAnew:3 stateAnew:4 harm:B allowed:B allowed:-1 allowed:20 needs:B needs:1 bears:B first:B"
            + " first:-1 first:0 satelliteOf:B satelliteOf:A pieces:B pieces:0 pieces:90 paid:B paid:0";
        return text.split(" ");
    }

    private int next(int bound) {
        seed = seed * 6364136223846793005L + 1442695040888963407L;
        return (int) ((seed >>> 33) % bound);
    }

    private boolean isRare(int in) {
        return next(in) == 0;
    }

    private int oneOf(int low, int high) {
        if (isRare(60)) {
            int[] beyond = {low - 1, high + 1, Integer.MIN_VALUE, Integer.MAX_VALUE};
            return beyond[next(4)];
        }
        if (isRare(8)) {
            return next(2) == 0 ? low : high;
        }
        return low + next(high - low + 1);
    }

    private int filing() {
        return isRare(50) ? oneOf(0, 39) : next(Math.max(filings, 1));
    }

    private int satellite() {
        return isRare(50) ? oneOf(0, 15) : next(Math.max(satellites, 1));
    }

    private int slot() {
        // few slots, so that what is told meets; some runs lie over the end of the ring
        return isRare(30) ? oneOf(0, 359) : (run % 3 * 179 + 355 + next(run % 5 + 2) * (1 + run % 4)) % 360;
    }

    private int band() {
        return isRare(30) ? oneOf(0, 4) : next(1 + run % 2);
    }

    private int power() {
        return run % 2 == 0 ? oneOf(1, 50) : oneOf(1, 50) % 5 + (isRare(50) ? 0 : 1);
    }

    private void play() {
        int total = 0;
        for (int weight : WEIGHTS) {
            total += weight;
        }
        for (int i = 1; i < CALLS; i++) {
            int at = next(total);
            int which = 0;
            while (at >= WEIGHTS[which]) {
                at -= WEIGHTS[which];
                which++;
            }
            // at first there must be something to call for
            if (i < 12 && next(2) == 0) {
                which = next(3) == 0 ? 7 : 0;
            }
            if (which < 8) {
                callFilings(i, which);
            } else if (which < 15) {
                callSatellites(i, which);
            } else {
                ask(i, which);
            }
        }
    }

    private void callFilings(int i, int which) {
        int f = filing();
        int g = filing();
        int slot = slot();
        int power = power();
        boolean b = next(3) != 0;
        switch (which) {
            case 0 -> {
                int land = oneOf(0, 7);
                int band = band();
                compare(i, which, () -> x.file(land, slot, band, power), plain.file(land, slot, band, power));
                filings = Math.min(filings + 1, 40);
            }
            case 1 -> {
                int harm = isRare(3) ? oneOf(0, 600) : oneOf(0, 100);
                compare(i, which, () -> x.agree(f, g, harm), plain.agree(f, g, harm));
            }
            case 2 -> compare(i, which, () -> x.inform(f, b) ? 1 : 0, plain.inform(f, b));
            case 3 -> compare(i, which, () -> x.change(f, slot, power) ? 1 : 0, plain.change(f, slot, power));
            case 4 -> compare(i, which, () -> x.withdraw(f), plain.withdraw(f));
            case 5 -> callUse(i, which);
            case 6 -> {
                int who = filingInUse();
                int of = filingInUse();
                compare(i, which, () -> x.complain(who, of) ? 1 : 0, plain.complain(who, of));
            }
            default -> {
                int states = oneOf(1, 255);
                int fuel = oneOf(0, 20);
                compare(i, which, () -> x.launch(states, slot, fuel, b), plain.launch(states, slot, fuel, b));
                satellites = Math.min(satellites + 1, 16);
            }
        }
    }

    private void callUse(int i, int which) {
        int f = filing();
        int s = satellite();
        // most pairs don't fit, so that some are tried
        for (int k = 0; k < 20 && plain.filingOf(f, 1) != plain.satelliteOf(s, 3); k++) {
            f = filing();
            s = satellite();
        }
        int filing = f;
        int satellite = s;
        compare(i, which, () -> x.use(filing, satellite), plain.use(filing, satellite));
    }

    private int filingInUse() {
        int f = filing();
        for (int k = 0; k < 20 && plain.filingOf(f, 5) != Orbitregister.IN_USE; k++) {
            f = filing();
        }
        return f;
    }

    private void callSatellites(int i, int which) {
        int s = satellite();
        int t = satellite();
        switch (which) {
            case 8 -> {
                int land = oneOf(0, 7);
                compare(i, which, () -> x.register(s, land), plain.register(s, land));
            }
            case 9 -> {
                int slot = slot();
                compare(i, which, () -> x.move(s, slot), plain.move(s, slot));
            }
            case 10 -> compare(i, which, () -> x.bury(s), plain.bury(s));
            case 11 -> compare(i, which, () -> x.die(s), plain.die(s));
            case 12 -> compare(i, which, () -> x.near(s, t), plain.near(s, t));
            case 13 -> {
                int amount = oneOf(1, 1000000);
                boolean isGround = next(2) == 0;
                boolean isFault = next(2) == 0;
                compare(i, which, () -> x.claim(s, amount, isGround, isFault),
                        plain.claim(s, amount, isGround, isFault));
            }
            default -> {
                int days = isRare(run % 7 == 0 ? 2 : 8) ? oneOf(1, 400) : oneOf(1, 90);
                compare(i, which, () -> x.pass(days), plain.pass(days));
            }
        }
    }

    private void ask(int i, int which) {
        int f = filing();
        int g = filing();
        switch (which) {
            case 15 -> compare(i, which, () -> x.day(), plain.day());
            case 16 -> {
                int what = oneOf(0, 8);
                compare(i, which, () -> x.filingOf(f, what), plain.filingOf(f, what));
            }
            case 17 -> compare(i, which, () -> x.stateAnew(f), plain.stateAnew(f));
            case 18 -> compare(i, which, () -> x.harm(f, g), plain.harm(f, g));
            case 19 -> compare(i, which, () -> x.allowed(f, g), plain.allowed(f, g));
            case 20 -> compare(i, which, () -> x.needs(f), plain.needs(f));
            case 21 -> compare(i, which, () -> x.bears(f), plain.bears(f));
            case 22 -> {
                int slot = slot();
                int band = band();
                compare(i, which, () -> x.first(slot, band), plain.first(slot, band));
            }
            case 23 -> {
                int s = satellite();
                int what = oneOf(0, 6);
                compare(i, which, () -> x.satelliteOf(s, what), plain.satelliteOf(s, what));
            }
            case 24 -> {
                int sector = isRare(3) ? oneOf(0, 35) : slot() / 10;
                compare(i, which, () -> x.pieces(sector), plain.pieces(sector));
            }
            default -> {
                int land = oneOf(0, 7);
                compare(i, which, () -> x.paid(land), plain.paid(land));
            }
        }
    }

    private void compare(int i, int which, LongSupplier call, long want) {
        long got = answerOf(call);
        String kind = got == PlainRegister.BOUNDS ? "B" : got == PlainRegister.ARGUMENT ? "A"
                : got == PlainRegister.STATE ? "S" : Long.toString(got);
        if (got < 1000) {
            seen.merge(NAMES[which] + ":" + kind, 1, Integer::sum);
        }
        Due.answer("run " + run + ", call " + i + ", " + NAMES[which], got, want);
    }

    private static long answerOf(LongSupplier call) {
        try {
            return call.getAsLong();
        } catch (IndexOutOfBoundsException e) {
            return e.getClass() == IndexOutOfBoundsException.class ? PlainRegister.BOUNDS : Long.MIN_VALUE;
        } catch (IllegalArgumentException e) {
            return PlainRegister.ARGUMENT;
        } catch (IllegalStateException e) {
            return PlainRegister.STATE;
        } catch (RuntimeException e) {
            return Long.MIN_VALUE;
        }
    }
}
