/** "A SPECIAL; 0 if there is none such." */
public final class Edges10Special {
    public static void main(String[] args) {
        Checks c = new Checks();
        lastAndFirstOutside(c);
        farOnes(c);
        everyWordIsAnswered(c);
        nothingChanges(c);
        c.end();
    }

    private static SoftMaps full() {
        SoftMaps x = new SoftMaps();
        for (int k = 0; k < 33; k++) {
            x.set(k, -1);
        }
        return x;
    }

    private static void lastAndFirstOutside(Checks c) {
        SoftMaps x = full();
        c.due("special(-1)", x.special(-1), 0);
        c.due("special(0)", x.special(0), -1);
        c.due("special(31)", x.special(31), -1);
        c.due("special(32)", x.special(32), 7);
        c.due("special(33)", x.special(33), 0);
        for (int k = -200; k < 250; k++) {
            c.due("special(" + k + ")", x.special(k), k < 0 || k > 32 ? 0 : k == 32 ? 7 : -1);
        }
    }

    private static void farOnes(Checks c) {
        SoftMaps x = full();
        for (int bit = 6; bit < 32; bit++) {
            c.due("special(2^" + bit + ")", x.special(1 << bit), 0);
            c.due("special(2^" + bit + " + 32)", x.special((1 << bit) + 32), 0);
        }
        c.due("special(the highest int)", x.special(Integer.MAX_VALUE), 0);
    }

    private static void everyWordIsAnswered(Checks c) {
        for (int k = 0; k < 32; k++) {
            SoftMaps x = new SoftMaps();
            for (int value : new int[] {1, -1, Integer.MIN_VALUE, Integer.MAX_VALUE, 1023, 1024, 0}) {
                x.set(k, value);
                c.due("special(" + k + ")", x.special(k), value);
            }
        }
    }

    private static void nothingChanges(Checks c) {
        States.changesNothing(c, "special", States::busy, x -> {
            for (int k = -2; k < 36; k++) {
                x.special(k);
            }
            x.special(Integer.MIN_VALUE);
            x.special(Integer.MAX_VALUE);
        });
    }
}
