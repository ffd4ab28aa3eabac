/** "No page is matched any more (all MATCHES of code, or of data, are even): how many there were." */
public final class Edges09Forget {
    public static void main(String[] args) {
        Checks c = new Checks();
        for (int i = 0; i < 2; i++) {
            boolean data = i == 1;
            everyMixture(c, data);
            noneOneAndAll(c, data);
            whatChanges(c, data);
            pagesAreNotFound(c, data);
        }
        c.end();
    }

    /** Which SETS match: none to all eight, in all ways. */
    private static void everyMixture(Checks c, boolean data) {
        int first = data ? 16 : 0;
        for (int sets = 0; sets < 256; sets++) {
            SoftMaps x = new SoftMaps();
            for (int s = 0; s < 8; s++) {
                x.set(first + s, (sets >> s & 1) == 1 ? -1 - 2048 * s : -2 - 2048 * s);
                x.set(16 - first + s, -1);
            }
            String what = "SETS " + sets + ", data " + data;
            c.due(what + " forget", x.forget(data), Integer.bitCount(sets));
            for (int s = 0; s < 8; s++) {
                c.due(what + " MATCH " + s + " is odd", x.special(first + s) & 1, 0);
                c.due(what + " the other MATCH " + s, x.special(16 - first + s), -1);
            }
            c.due(what + " SETS that match", x.look(data ? 7 : 6), 0);
            c.due(what + " SETS of the other kind", x.look(data ? 6 : 7), 8);
            c.due(what + " forget again", x.forget(data), 0);
        }
    }

    private static void noneOneAndAll(Checks c, boolean data) {
        SoftMaps x = new SoftMaps();
        c.due("none", x.forget(data), 0);
        x.map(0, 0, 0, data);
        c.due("the first SET", x.forget(data), 1);
        x.map(-1, 0, 0, data);
        c.due("the last SET", x.forget(data), 1);
        x.map(-1, 0, 0, data);
        x.map(7168, 0, 0, data);
        c.due("a SET that was mapped twice", x.forget(data), 1);
        for (int s = 0; s < 8; s++) {
            x.map(s * 1024, 0, 0, data);
        }
        c.due("all", x.forget(data), 8);
        c.due("none again", x.forget(data), 0);
        for (int s = 0; s < 8; s++) {
            x.map(s * 1024, 0, 0, !data);
        }
        c.due("none of this kind", x.forget(data), 0);
        c.due("all of the other", x.forget(!data), 8);
    }

    private static void whatChanges(Checks c, boolean data) {
        int first = data ? 16 : 0;
        int one = 0x01010101;
        SoftMaps x = new SoftMaps();
        States.busy(x);
        c.due("forget in the busy state", x.forget(data), 4);
        States.changes(c, "forget(" + data + ")", States::busy, y -> y.forget(data),
            States.look(data ? 7 : 6), 0,
            States.special(first), (first + 1) * one - 1,
            States.special(first + 2), (first + 3) * one - 1,
            States.special(first + 4), (first + 5) * one - 1,
            States.special(first + 6), (first + 7) * one - 1);
        States.changesNothing(c, "forget on a new object", y -> { }, y -> y.forget(data));
    }

    private static void pagesAreNotFound(Checks c, boolean data) {
        SoftMaps x = new SoftMaps();
        x.set(32, 6);
        for (int s = 0; s < 8; s++) {
            x.map(s * 1024, 31, 15, false);
            x.map(s * 1024, 31, 15, true);
        }
        x.forget(data);
        for (int s = 0; s < 8; s++) {
            c.due("code " + s, x.find(s * 1024, 0, true), data ? 31744 : -10);
            c.due("data " + s, x.find(s * 1024, 1, true), data ? -9 : 31744);
        }
        x.map(3072, 30, 15, data);
        c.due("mapped again", x.find(3072, data ? 1 : 0, true), 30720);
        c.due("how many then", x.forget(data), 1);
    }
}
