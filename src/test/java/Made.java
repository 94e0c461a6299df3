/** Objects that several tests begin with. */
final class Made {
    static final int LAST_DAY = 5000;

    private Made() {
    }

    static Orbitregister let(Orbitregister x, int days) {
        for (int left = days; left > 0; left -= 400) {
            x.pass(Math.min(left, 400));
        }
        return x;
    }

    static Orbitregister onDay(int day) {
        return let(new Orbitregister(), day);
    }

    /** Filings of band 0, told by slot, power, slot, power, .. */
    static Orbitregister filed(int... slotsAndPowers) {
        Orbitregister x = new Orbitregister();
        for (int i = 0; i < slotsAndPowers.length; i += 2) {
            x.file(0, slotsAndPowers[i], 0, slotsAndPowers[i + 1]);
        }
        return x;
    }

    /** The same on day 90, all IN_USE: each served by the satellite of its number, that has 9 of fuel. */
    static Orbitregister used(int... slotsAndPowers) {
        Orbitregister x = filed(slotsAndPowers);
        int count = slotsAndPowers.length / 2;
        for (int i = 0; i < count; i++) {
            x.inform(i, true);
            x.launch(1, slotsAndPowers[2 * i], 9, false);
        }
        x.pass(90);
        for (int i = 0; i < count; i++) {
            x.use(i, i);
        }
        return x;
    }

    /** 40 filings, some in each slot that is a multiple of 9 and in each band. */
    static Orbitregister forty() {
        Orbitregister x = new Orbitregister();
        for (int i = 0; i < 40; i++) {
            x.file(i % 8, i * 9, i % 5, 1 + i);
        }
        return x;
    }

    /** 16 satellites, each launched by the lands that its number + 1 has bits for, in the slot of its number. */
    static Orbitregister sixteen() {
        Orbitregister x = new Orbitregister();
        for (int i = 0; i < 16; i++) {
            x.launch(1 + i, i, i, i % 2 == 0);
        }
        return x;
    }

    /** Satellites of one slot with these fuels. */
    static Orbitregister launched(int slot, boolean isAuto, int... fuels) {
        Orbitregister x = new Orbitregister();
        for (int fuel : fuels) {
            x.launch(1, slot, fuel, isAuto);
        }
        return x;
    }

    /** 100 pieces in the sector of a slot, by two satellites without fuel. */
    static Orbitregister collided(int slot) {
        Orbitregister x = launched(slot, false, 0, 0);
        x.near(0, 1);
        return x;
    }
}
