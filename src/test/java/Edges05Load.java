/** "A LOAD of a word, or a byte (0 .. 255), at v; 0 if there is a FAULT." No wrong load could find a 0 here. */
public final class Edges05Load {
    private static final int SET = 3;
    private static final int V = 3 * 1024;

    public static void main(String[] args) {
        Checks c = new Checks();
        bytesFrom0To255(c);
        wordsAndBytesAtTheEdges(c);
        faultsOfUnmappedData(c);
        faultsOfMappedData(c);
        whatChanges(c);
        c.end();
    }

    /** Words at both ends of each page that a test uses. */
    private static SoftMaps filled() {
        SoftMaps x = new SoftMaps();
        for (int page : new int[] {0, 1, 3, 11, 31, 32, 62, 63}) {
            x.poke(page * 1024, 0xF1F2F300 + page);
            x.poke(page * 1024 + 1020, 0xE1E2E300 + page);
        }
        return x;
    }

    private static void read(Checks c, String what, SoftMaps x, int v, boolean word, int due, int fault) {
        int faults = x.look(0);
        int loads = x.look(4);
        c.due(what, x.load(v, word), due);
        c.due(what + ": FAULTS", x.look(0), fault == 0 ? faults : faults + 1);
        c.due(what + ": LOADS", x.look(4), fault == 0 ? loads + 1 : loads);
        if (fault != 0) {
            c.due(what + ": FAULT", x.look(1), fault);
            c.due(what + ": FAULT ADDRESS", x.look(2), v);
        }
    }

    private static void bytesFrom0To255(Checks c) {
        for (int first = 0; first < 256; first += 64) {
            SoftMaps x = new SoftMaps();
            for (int b = first; b < first + 64; b++) {
                x.poke(40000, 0x01010101 * b);
                for (int i = 0; i < 4; i++) {
                    c.due("byte " + b, x.load(40000 + i, false), b);
                }
            }
        }
    }

    private static void wordsAndBytesAtTheEdges(Checks c) {
        SoftMaps x = filled();
        read(c, "the first word", x, 0, true, 0xF1F2F300, 0);
        read(c, "the first byte", x, 0, false, 0xF1, 0);
        read(c, "the last byte of page 0", x, 1023, false, 0, 0);
        read(c, "the last byte of page 1", x, 2047, false, 1, 0);
        read(c, "the last byte of code", x, 32767, false, 31, 0);
        read(c, "the last word of code", x, 32764, true, 0xE1E2E31F, 0);
        read(c, "the first byte of data", x, 32768, false, 0xF1, 0);
        read(c, "the first word of data", x, 32768, true, 0xF1F2F320, 0);
        read(c, "the last word", x, 65532, true, 0xE1E2E33F, 0);
        read(c, "the last byte", x, 65535, false, 63, 0);
    }

    private static void faultsOfUnmappedData(Checks c) {
        SoftMaps x = filled();
        for (int v : new int[] {1, 2, 3, 1023, 32767, 32769, 65533, 65534, 65535, 65537, -1, -2, -3}) {
            read(c, "load(" + v + ", true)", x, v, true, 0, 6);
        }
        for (int v : new int[] {65536, 131072, -4, -1024, -65536, Integer.MIN_VALUE, Integer.MAX_VALUE - 3}) {
            read(c, "load(" + v + ", true)", x, v, true, 0, 2);
            read(c, "load(" + v + ", false)", x, v, false, 0, 2);
            read(c, "load(" + (v + 3) + ", false)", x, v + 3, false, 0, 2);
        }
    }

    private static SoftMaps mapped(int mode, int match, int place) {
        SoftMaps x = filled();
        x.set(32, mode);
        x.set(16 + SET, match);
        x.set(24 + SET, place);
        return x;
    }

    private static void faultsOfMappedData(Checks c) {
        read(c, "page 63", mapped(4, V | 1, 63 * 1024 | 1), V + 1020, true, 0xE1E2E33F, 0);
        read(c, "its last byte", mapped(4, V | 1, 63 * 1024 | 1), V + 1023, false, 63, 0);
        read(c, "page 64", mapped(4, V | 1, 64 * 1024 | 1), V, true, 0, 2);
        read(c, "a byte of page 64", mapped(4, V | 1, 64 * 1024 | 1), V + 1, false, 0, 2);
        read(c, "page 0", mapped(4, V | 1, 1), V, true, 0xF1F2F300, 0);
        read(c, "page 31", mapped(4, V | 1, 31 * 1024 | 1), V, true, 0xF1F2F31F, 0);
        read(c, "page 2^21", mapped(4, V | 1, Integer.MIN_VALUE | 1), V, true, 0, 2);
        read(c, "not a multiple of 4", mapped(4, V | 1, 62 * 1024 | 1), V + 1, true, 0, 6);
        read(c, "a byte there", mapped(4, V | 1, 62 * 1024 | 1), V + 1, false, 0xF2, 0);
        read(c, "neither that nor a match", mapped(4, V, 62 * 1024), V + 2, true, 0, 6);
        read(c, "an even MATCH", mapped(4, V, 62 * 1024 | 1), V, true, 0, 9);
        read(c, "a MATCH of page 11", mapped(4, V + 8192 | 1, 62 * 1024 | 1), V, false, 0, 9);
        read(c, "neither match nor right", mapped(4, V, 62 * 1024), V, true, 0, 9);
        read(c, "no right 1", mapped(4, V | 1, 62 * 1024 | 1022), V, true, 0, 3);
        read(c, "no right 4", mapped(5, V | 1, 62 * 1024 | 1019), V, false, 0, 3);
        read(c, "neither right nor page", mapped(4, V | 1, 64 * 1024 | 14), V, true, 0, 3);
        read(c, "right 4", mapped(5, V | 1, 62 * 1024 | 4), V, true, 0xF1F2F33E, 0);
        read(c, "only code is mapped", mapped(3, V | 1, 62 * 1024 | 15), V, true, 0xF1F2F303, 0);
    }

    private static void whatChanges(Checks c) {
        States.Calls before = x -> {
            States.busy(x);
            x.map(V, 63, 4, true);
        };
        States.changes(c, "load of a word", before, x -> x.load(V + 1020, true), States.look(4), 3);
        States.changes(c, "load of a byte", before, x -> x.load(V + 1023, false), States.look(4), 3);
        States.changes(c, "load, 6", before, x -> x.load(V + 1, true),
            States.look(0), 2, States.look(1), 6, States.look(2), V + 1);
        States.changes(c, "load, 9", before, x -> x.load(V + 8192, false),
            States.look(0), 2, States.look(1), 9, States.look(2), V + 8192);
    }
}
