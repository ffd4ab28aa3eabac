/** "32 MODE: 1 SUPERVISOR, 2 CODE MAPPED, 4 DATA MAPPED (its other bits are 0 always)". */
public final class TermsMode {
    public static void main(String[] args) {
        Checks c = new Checks();
        eachBitAlone(c);
        valuesAroundTheLast(c);
        otherBitsStay0(c);
        otherBitsMapNothing(c);
        whatEachModeDoes(c);
        onlyModeIsCut(c);
        c.end();
    }

    private static void eachBitAlone(Checks c) {
        SoftMaps x = new SoftMaps();
        for (int bit = 0; bit < 32; bit++) {
            c.due("set bit " + bit, x.set(32, 1 << bit), true);
            c.due("MODE of bit " + bit, x.special(32), bit < 3 ? 1 << bit : 0);
            c.due("set all but bit " + bit, x.set(32, ~(1 << bit)), true);
            c.due("MODE of all but bit " + bit, x.special(32), bit < 3 ? 7 - (1 << bit) : 7);
        }
    }

    private static void valuesAroundTheLast(Checks c) {
        SoftMaps x = new SoftMaps();
        int[] values = {0, 6, 7, 8, 9, 15, 16, -1, -7, -8, -9, Integer.MIN_VALUE, Integer.MAX_VALUE};
        int[] kept = {0, 6, 7, 0, 1, 7, 0, 7, 1, 0, 7, 0, 7};
        for (int i = 0; i < values.length; i++) {
            c.due("set(32, " + values[i] + ")", x.set(32, values[i]), true);
            c.due("MODE of " + values[i], x.special(32), kept[i]);
        }
    }

    private static void otherBitsStay0(Checks c) {
        SoftMaps x = new SoftMaps();
        States.busy(x);
        x.set(32, -1);
        x.map(-1, 63, 15, true);
        x.map(-1, 63, 15, false);
        x.code(-1);
        x.load(-1, false);
        x.store(-1, -1, false);
        x.find(-1, 2, false);
        c.due("MODE after calls", x.special(32), 7);
        x.forget(true);
        x.forget(false);
        x.poke(65532, -1);
        x.set(31, -1);
        x.set(33, -1);
        c.due("MODE after more calls", x.special(32), 7);
        x.set(32, -8);
        c.due("MODE of its other bits", x.special(32), 0);
    }

    private static void otherBitsMapNothing(Checks c) {
        SoftMaps x = new SoftMaps();
        x.map(0, 33, 3, true);
        x.map(0, 1, 3, false);
        x.set(32, -8);
        c.due("code is not mapped", x.find(0, 0, true), 0);
        c.due("data is not mapped", x.find(0, 1, true), 0);
        x.set(32, -2);
        c.due("code by another than the SUPERVISOR", x.find(0, 0, true), 1024);
        c.due("data by another than the SUPERVISOR", x.find(0, 1, true), 33 * 1024);
    }

    private static void whatEachModeDoes(Checks c) {
        int[] codeOfUsers = {4, 4, 1028, -4, 4, 4, 1028, -4};
        int[] codeOfSupervisors = {4, 4, -4, 1028, 4, 4, -4, 1028};
        int[] dataOfUsers = {32772, 32772, 32772, 32772, 34820, -3, 34820, -3};
        int[] dataOfSupervisors = {32772, 32772, 32772, 32772, -3, 34820, -3, 34820};
        for (int mode = 0; mode < 8; mode++) {
            SoftMaps x = new SoftMaps();
            x.set(32, mode);
            x.map(4, 1, 1, false);
            x.map(32772, 34, 3, true);
            c.due("code, right 1, mode " + mode, x.find(4, 0, true), codeOfUsers[mode]);
            c.due("LOAD, rights 3, mode " + mode, x.find(32772, 1, true), dataOfUsers[mode]);
            c.due("STORE, rights 3, mode " + mode, x.find(32772, 2, true), dataOfUsers[mode]);
            x.map(4, 1, 4, false);
            x.map(32772, 34, 12, true);
            c.due("code, right 4, mode " + mode, x.find(4, 0, true), codeOfSupervisors[mode]);
            c.due("LOAD, rights 12, mode " + mode, x.find(32772, 1, true), dataOfSupervisors[mode]);
            c.due("STORE, rights 12, mode " + mode, x.find(32772, 2, true), dataOfSupervisors[mode]);
        }
    }

    private static void onlyModeIsCut(Checks c) {
        SoftMaps x = new SoftMaps();
        for (int k = 0; k < 32; k++) {
            x.set(k, -1);
            c.due("special(" + k + ")", x.special(k), -1);
        }
    }
}
