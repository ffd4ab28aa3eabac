/**
 * "What a PROBE would find (how 0 code, 1 LOAD, 2 STORE; a word or a byte, code is always a word): the place, 0 or
 * more, or less its FAULT; 0 if there is no such how. Nothing changes."
 */
public final class Edges07Find {
    public static void main(String[] args) {
        Checks c = new Checks();
        codeIsAlwaysAWord(c);
        thePlaceMayBe0(c);
        firstAndLastHow(c);
        noSuchHow(c);
        nothingChanges(c);
        itIsWhatProbesFind(c);
        c.end();
    }

    private static void codeIsAlwaysAWord(Checks c) {
        SoftMaps x = new SoftMaps();
        for (int v : new int[] {1, 2, 3, 1021, 32765, 32766, 32767, 32769, -1, Integer.MAX_VALUE}) {
            c.due("find(" + v + ", 0, true)", x.find(v, 0, true), -6);
            c.due("find(" + v + ", 0, false)", x.find(v, 0, false), -6);
        }
        c.due("find(32764, 0, false)", x.find(32764, 0, false), 32764);
        c.due("find(32768, 0, false)", x.find(32768, 0, false), -2);
        x.set(32, 2);
        c.due("mapped: find(1, 0, false)", x.find(1, 0, false), -6);
        c.due("mapped: find(0, 0, false)", x.find(0, 0, false), -10);
    }

    private static void thePlaceMayBe0(Checks c) {
        SoftMaps x = new SoftMaps();
        c.due("code at 0", x.find(0, 0, true), 0);
        c.due("LOAD at 0", x.find(0, 1, true), 0);
        c.due("STORE at 0", x.find(0, 2, true), -2);
        x.set(32, 6);
        x.map(-1024, 0, 15, false);
        x.map(-1024, 0, 15, true);
        c.due("code at -1024", x.find(-1024, 0, true), 0);
        c.due("LOAD at -1024", x.find(-1024, 1, true), 0);
        c.due("STORE at -1024", x.find(-1024, 2, true), -2);
    }

    private static void firstAndLastHow(Checks c) {
        SoftMaps x = new SoftMaps();
        x.set(32, 6);
        x.map(0, 1, 1, false);
        x.map(0, 33, 3, true);
        c.due("how -1", x.find(4, -1, true), 0);
        c.due("how 0", x.find(4, 0, true), 1028);
        c.due("how 1", x.find(4, 1, true), 33796);
        c.due("how 2", x.find(4, 2, true), 33796);
        c.due("how 3", x.find(4, 3, true), 0);
    }

    /** What each how would find is not 0 here. */
    private static void noSuchHow(Checks c) {
        for (int v : new int[] {1, 4, 32764, 32767, 40000, 40001, 65536, -1, -4, Integer.MIN_VALUE}) {
            SoftMaps x = new SoftMaps();
            for (int how : new int[] {-1, -2, -3, -4, 3, 4, 5, 8, 256, 257, 258, 65536, 65537,
                Integer.MIN_VALUE, Integer.MIN_VALUE + 1, Integer.MIN_VALUE + 2, Integer.MAX_VALUE}) {
                c.due("find(" + v + ", " + how + ", true)", x.find(v, how, true), 0);
                c.due("find(" + v + ", " + how + ", false)", x.find(v, how, false), 0);
            }
        }
        SoftMaps mapped = new SoftMaps();
        mapped.set(32, 6);
        for (int how : new int[] {-1, 3, Integer.MIN_VALUE, Integer.MAX_VALUE}) {
            c.due("mapped: how " + how, mapped.find(0, how, true), 0);
        }
    }

    private static void findAll(SoftMaps x) {
        for (int how = -1; how < 4; how++) {
            for (int v : new int[] {0, 3, 1024, 2048, 32764, 32768, 65532, 65536, -1}) {
                x.find(v, how, true);
                x.find(v, how, false);
            }
        }
    }

    private static void nothingChanges(Checks c) {
        for (int mode = 0; mode < 8; mode++) {
            int m = mode;
            States.changesNothing(c, "find in mode " + mode, x -> {
                States.busy(x);
                x.set(32, m);
                x.map(1024, 31, 15, false);
                x.map(1024, 63, 15, true);
                x.map(2048, 31, 0, false);
                x.map(2048, 31, 10, true);
            }, Edges07Find::findAll);
        }
        States.changesNothing(c, "find on a new object", x -> { }, Edges07Find::findAll);
    }

    /** Each FAULT that find tells is the one that the PROBE has then. */
    private static void itIsWhatProbesFind(Checks c) {
        for (int mode = 0; mode < 8; mode++) {
            SoftMaps x = new SoftMaps();
            x.set(32, mode);
            x.map(1024, 31, 5, false);
            x.map(1024, 32, 15, true);
            x.map(2048, 32, 5, false);
            x.map(2048, 31, 10, true);
            for (int v : new int[] {0, 1, 1024, 1027, 2048, 2051, 32768, 65535, 65536, -4}) {
                int code = x.find(v, 0, true);
                x.code(v);
                c.due("code at " + v, code < 0 ? -x.look(1) : code, code);
                int load = x.find(v, 1, false);
                x.load(v, false);
                c.due("LOAD at " + v, load < 0 ? -x.look(1) : load, load);
                int store = x.find(v, 2, true);
                int place = x.store(v, 0, true);
                c.due("STORE at " + v, place < 0 ? -x.look(1) : place, store);
            }
        }
    }
}
