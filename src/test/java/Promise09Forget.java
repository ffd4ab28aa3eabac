public final class Promise09Forget {
    public static void main(String[] args) {
        Checks c = new Checks();
        nothingToForget(c);
        oneKindIsForgotten(c, false);
        oneKindIsForgotten(c, true);
        allAreForgotten(c);
        c.end();
    }

    private static void nothingToForget(Checks c) {
        SoftMaps x = new SoftMaps();
        c.due("forget(false)", x.forget(false), 0);
        c.due("forget(true)", x.forget(true), 0);
        c.allSpecialsAreZero("after it", x);
    }

    private static void oneKindIsForgotten(Checks c, boolean data) {
        SoftMaps x = new SoftMaps();
        int first = data ? 16 : 0;
        for (int k = 0; k < 33; k++) {
            x.set(k, k % 3 == 0 ? 1024 * k + 6 : -1 - 1024 * k);
        }
        int odd = 0;
        for (int s = 0; s < 8; s++) {
            odd += x.special(first + s) & 1;
        }
        c.due("forget", x.forget(data), odd);
        for (int k = 0; k < 32; k++) {
            int was = k % 3 == 0 ? 1024 * k + 6 : -1 - 1024 * k;
            boolean forgotten = k >= first && k < first + 8;
            c.due("special(" + k + ")", x.special(k), forgotten ? was & -2 : was);
        }
        c.due("none is left", x.look(data ? 7 : 6), 0);
        c.due("forget again", x.forget(data), 0);
        c.looks("after forget", x, 0, 0, 0, 0, 0, 0);
    }

    private static void allAreForgotten(Checks c) {
        SoftMaps x = new SoftMaps();
        x.set(32, 6);
        for (int s = 0; s < 8; s++) {
            x.map(s * 1024, s, 15, false);
            x.map(s * 1024, s, 15, true);
        }
        c.due("forget(true)", x.forget(true), 8);
        for (int s = 0; s < 8; s++) {
            c.due("code " + s, x.find(s * 1024, 0, true), s * 1024);
            c.due("data " + s, x.find(s * 1024, 1, true), -9);
        }
        c.due("forget(false)", x.forget(false), 8);
        for (int s = 0; s < 8; s++) {
            c.due("code " + s, x.find(s * 1024, 0, true), -10);
        }
    }
}
