/** "A STORE of a word, or the lowest byte of it, at v: the place; NONE if there is a FAULT." */
public final class Edges06Store {
    private static final int SET = 3;
    private static final int V = 3 * 1024;

    public static void main(String[] args) {
        Checks c = new Checks();
        lowestByteOfEveryValue(c);
        takenAtTheEdges(c);
        faultsOfUnmappedData(c);
        faultsOfMappedData(c);
        takenByMaps(c);
        c.end();
    }

    private static void lowestByteOfEveryValue(Checks c) {
        int[] values = {0, 1, 127, 128, 255, 256, 257, 511, -1, -128, -129, -256, Integer.MIN_VALUE, Integer.MAX_VALUE};
        int[] bytes = {0, 1, 127, 128, 255, 0, 1, 255, 255, 128, 127, 0, 0, 255};
        SoftMaps x = new SoftMaps();
        for (int i = 0; i < values.length; i++) {
            x.poke(40000, 0x11223344);
            c.due("store of " + values[i], x.store(40001, values[i], false), 40001);
            c.due("its byte", x.load(40001, false), bytes[i]);
            c.due("its word", x.word(40000), 0x11003344 | bytes[i] << 16);
        }
    }

    private static void unmapped(SoftMaps x) {
        States.busy(x);
        x.set(32, 3);
    }

    private static void taken(Checks c, States.Calls before, int v, int value, boolean word, int place, int now) {
        String what = "store(" + v + ", " + value + ", " + word + ")";
        SoftMaps x = new SoftMaps();
        before.on(x);
        c.due(what, x.store(v, value, word), place);
        States.changes(c, what, before, y -> y.store(v, value, word),
            States.look(5), 4, States.word(place & -4), now);
    }

    private static void refused(Checks c, States.Calls before, int v, boolean word, int fault) {
        String what = "store(" + v + ", 5, " + word + ") with the fault " + fault;
        SoftMaps x = new SoftMaps();
        before.on(x);
        c.due(what, x.store(v, 5, word), -1);
        States.changes(c, what, before, y -> y.store(v, 5, word),
            States.look(0), 2, States.look(1), fault, States.look(2), v);
    }

    private static void takenAtTheEdges(Checks c) {
        taken(c, Edges06Store::unmapped, 32768, 0x01020304, true, 32768, 0x01020304);
        taken(c, Edges06Store::unmapped, 32768, 0x01020304, false, 32768, 0x04B2C3D4);
        taken(c, Edges06Store::unmapped, 32771, 0x01020304, false, 32771, 0xA1B2C304);
        taken(c, Edges06Store::unmapped, 32772, -1, true, 32772, -1);
        taken(c, Edges06Store::unmapped, 65532, Integer.MIN_VALUE, true, 65532, Integer.MIN_VALUE);
        taken(c, Edges06Store::unmapped, 65533, -2, false, 65533, 0xA1FEC3D4);
        taken(c, Edges06Store::unmapped, 65534, -2, false, 65534, 0xA1B2FED4);
        taken(c, Edges06Store::unmapped, 65535, -2, false, 65535, 0xA1B2C3FE);
        taken(c, Edges06Store::unmapped, 65532, 0, true, 65532, 0);
    }

    private static void faultsOfUnmappedData(Checks c) {
        for (int v : new int[] {32765, 32769, 32770, 32771, 65533, 65535, 65537, -1, -3, 1}) {
            refused(c, Edges06Store::unmapped, v, true, 6);
        }
        for (int v : new int[] {0, 32764, 65536, 131072, -4, -32768, Integer.MIN_VALUE, Integer.MAX_VALUE - 3}) {
            refused(c, Edges06Store::unmapped, v, true, 2);
            refused(c, Edges06Store::unmapped, v, false, 2);
            refused(c, Edges06Store::unmapped, v + 3, false, 2);
        }
    }

    private static States.Calls mapped(int mode, int match, int place) {
        return x -> {
            States.busy(x);
            x.set(32, mode);
            x.set(16 + SET, match);
            x.set(24 + SET, place);
        };
    }

    private static void faultsOfMappedData(Checks c) {
        refused(c, mapped(4, V | 1, 31 * 1024 | 2), V + 1020, true, 2);
        refused(c, mapped(4, V | 1, 31 * 1024 | 2), V + 1023, false, 2);
        refused(c, mapped(4, V | 1, 2), V, true, 2);
        refused(c, mapped(4, V | 1, 64 * 1024 | 2), V, true, 2);
        refused(c, mapped(4, V | 1, 64 * 1024 | 2), V + 1, false, 2);
        refused(c, mapped(4, V | 1, Integer.MIN_VALUE + 32768 | 2), V, true, 2);
        refused(c, mapped(4, V | 1, 62 * 1024 | 2), V + 1, true, 6);
        refused(c, mapped(4, V, 62 * 1024), V + 3, true, 6);
        refused(c, mapped(4, V, 62 * 1024 | 2), V, true, 9);
        refused(c, mapped(4, V + 8192 | 1, 62 * 1024 | 2), V, false, 9);
        refused(c, mapped(4, V, 62 * 1024), V, true, 9);
        refused(c, mapped(4, V | 1, 62 * 1024 | 1021), V, true, 3);
        refused(c, mapped(5, V | 1, 62 * 1024 | 1015), V, false, 3);
        refused(c, mapped(4, V | 1, 31 * 1024 | 13), V, true, 3);
        refused(c, mapped(4, V | 1, 64 * 1024 | 13), V, true, 3);
    }

    private static void takenByMaps(Checks c) {
        taken(c, mapped(4, V | 1, 32 * 1024 | 2), V, 7, true, 32768, 7);
        taken(c, mapped(5, V | 1, 32 * 1024 | 8), V + 1, 7, false, 32769, 0xA107C3D4);
        taken(c, mapped(4, V | 1, 63 * 1024 | 2), V + 1020, 7, true, 65532, 7);
        taken(c, mapped(5, V | 1, 63 * 1024 | 8), V + 1023, 7, false, 65535, 0xA1B2C307);
        taken(c, mapped(3, V | 1, 63 * 1024), 32768, 7, true, 32768, 7);
    }
}
