public final class Promise03Set {
    public static void main(String[] args) {
        Checks c = new Checks();
        allWordsAreKept(c);
        modeKeepsThreeBits(c);
        wrongSpecialsChangeNothing(c);
        c.end();
    }

    private static void allWordsAreKept(Checks c) {
        SoftMaps x = new SoftMaps();
        for (int k = 0; k < 32; k++) {
            c.due("set(" + k + ")", x.set(k, -1 - k * 77777), true);
        }
        for (int k = 0; k < 32; k++) {
            c.due("special(" + k + ")", x.special(k), -1 - k * 77777);
        }
        c.due("mode", x.special(32), 0);
        c.looks("after set", x, 0, 0, 0, 0, 0, 0);
    }

    private static void modeKeepsThreeBits(Checks c) {
        SoftMaps x = new SoftMaps();
        int[] values = {0, 1, 2, 4, 7, 8, -1, -8, 255, Integer.MIN_VALUE, Integer.MAX_VALUE};
        int[] kept = {0, 1, 2, 4, 7, 0, 7, 0, 7, 0, 7};
        for (int i = 0; i < values.length; i++) {
            c.due("set(32, " + values[i] + ")", x.set(32, values[i]), true);
            c.due("special(32) of " + values[i], x.special(32), kept[i]);
        }
    }

    private static void wrongSpecialsChangeNothing(Checks c) {
        SoftMaps x = new SoftMaps();
        for (int k : new int[] {-1, 33, 34, 64, Integer.MIN_VALUE, Integer.MAX_VALUE}) {
            c.due("set(" + k + ")", x.set(k, -1), false);
        }
        c.allSpecialsAreZero("after wrong sets", x);
    }
}
