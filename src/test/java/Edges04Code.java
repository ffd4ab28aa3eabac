/** "Code is read: the word at v; 0 if there is a FAULT." No word that a wrong read could find here is 0. */
public final class Edges04Code {
    private static final int SET = 3;
    private static final int V = 3 * 1024;

    public static void main(String[] args) {
        Checks c = new Checks();
        wordsAtTheEdges(c);
        faultsOfUnmappedCode(c);
        faultsOfMappedCode(c);
        whatChanges(c);
        c.end();
    }

    /** Words at both ends of each page that a test uses. */
    private static SoftMaps filled() {
        SoftMaps x = new SoftMaps();
        for (int page : new int[] {0, 1, 3, 11, 30, 31, 32, 33, 63}) {
            x.poke(page * 1024, 1000 + page);
            x.poke(page * 1024 + 1020, -1000 - page);
        }
        return x;
    }

    private static void read(Checks c, String what, SoftMaps x, int v, int due, int fault) {
        int faults = x.look(0);
        int reads = x.look(3);
        c.due(what, x.code(v), due);
        c.due(what + ": FAULTS", x.look(0), fault == 0 ? faults : faults + 1);
        c.due(what + ": words read as code", x.look(3), fault == 0 ? reads + 1 : reads);
        if (fault != 0) {
            c.due(what + ": FAULT", x.look(1), fault);
            c.due(what + ": FAULT ADDRESS", x.look(2), v);
        }
    }

    private static void wordsAtTheEdges(Checks c) {
        SoftMaps x = filled();
        read(c, "the first word", x, 0, 1000, 0);
        read(c, "the last of page 0", x, 1020, -1000, 0);
        read(c, "the first of page 1", x, 1024, 1001, 0);
        read(c, "the last word", x, 32764, -1031, 0);
        x.poke(0, Integer.MIN_VALUE);
        read(c, "the highest bit", x, 0, Integer.MIN_VALUE, 0);
    }

    private static void faultsOfUnmappedCode(Checks c) {
        SoftMaps x = filled();
        for (int v : new int[] {1, 2, 3, 1021, 1022, 1023, 32765, 32766, 32767, 32769, 65533, -1, -2, -3}) {
            read(c, "code(" + v + ")", x, v, 0, 6);
        }
        for (int v : new int[] {32768, 33788, 33792, 64512, 65532, 65536, 66556, 131072, -4, -1024, -32768, -65536,
            Integer.MIN_VALUE, Integer.MAX_VALUE - 3}) {
            read(c, "code(" + v + ")", x, v, 0, 2);
        }
    }

    private static SoftMaps mapped(int mode, int match, int place) {
        SoftMaps x = filled();
        x.set(32, mode);
        x.set(SET, match);
        x.set(8 + SET, place);
        return x;
    }

    private static void faultsOfMappedCode(Checks c) {
        read(c, "page 31", mapped(2, V | 1, 31 * 1024 | 1), V + 1020, -1031, 0);
        read(c, "page 32", mapped(2, V | 1, 32 * 1024 | 1), V, 0, 2);
        read(c, "page 0", mapped(2, V | 1, 1), V, 1000, 0);
        read(c, "page 64", mapped(2, V | 1, 64 * 1024 | 1), V, 0, 2);
        read(c, "page 2^21", mapped(2, V | 1, Integer.MIN_VALUE | 1), V, 0, 2);
        read(c, "not a multiple of 4", mapped(2, V | 1, 31 * 1024 | 1), V + 1, 0, 6);
        read(c, "neither that nor a match", mapped(2, V, 31 * 1024), V + 2, 0, 6);
        read(c, "an even MATCH", mapped(2, V, 31 * 1024 | 1), V, 0, 10);
        read(c, "a MATCH of page 11", mapped(2, V + 8192 | 1, 31 * 1024 | 1), V, 0, 10);
        read(c, "neither match nor right", mapped(2, V, 31 * 1024), V, 0, 10);
        read(c, "no right 1", mapped(2, V | 1, 31 * 1024 | 1022), V, 0, 4);
        read(c, "no right 4", mapped(3, V | 1, 31 * 1024 | 1019), V, 0, 4);
        read(c, "neither right nor page", mapped(2, V | 1, 32 * 1024 | 14), V, 0, 4);
        read(c, "right 4", mapped(3, V | 1, 30 * 1024 | 4), V, 1030, 0);
        read(c, "only data is mapped", mapped(5, V | 1, 30 * 1024 | 15), V, 1003, 0);
    }

    private static void whatChanges(Checks c) {
        States.Calls before = x -> {
            States.busy(x);
            x.map(V, 31, 4, false);
        };
        States.changes(c, "code", before, x -> x.code(V + 1020), States.look(3), 2);
        States.changes(c, "code, 6", before, x -> x.code(V + 1),
            States.look(0), 2, States.look(1), 6, States.look(2), V + 1);
        States.changes(c, "code, 10", before, x -> x.code(V + 8192),
            States.look(0), 2, States.look(1), 10, States.look(2), V + 8192);
    }
}
