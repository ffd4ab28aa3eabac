/**
 * "the latest FAULT (0 without one), 2: FAULT ADDRESS (0 without one)"; "(3 to 5: without a FAULT)"; "NONE for any
 * other which."
 */
public final class Edges12Look {
    public static void main(String[] args) {
        Checks c = new Checks();
        withoutAFault(c);
        withAFault(c);
        faultsAreNotCountedAsReads(c);
        countsOfAFullRun(c);
        setsThatMatch(c);
        anyOtherWhich(c);
        nothingChanges(c);
        c.end();
    }

    private static void withoutAFault(Checks c) {
        SoftMaps x = new SoftMaps();
        c.looks("new", x, 0, 0, 0, 0, 0, 0, 0, 0);
        x.code(4);
        x.load(65535, false);
        x.store(32768, 1, true);
        x.find(3, 0, true);
        x.find(-1, 2, false);
        x.poke(3, 1);
        x.set(33, 1);
        x.map(0, 64, 16, true);
        c.looks("without one", x, 0, 0, 0, 1, 1, 1, 0, 0);
    }

    private static void withAFault(Checks c) {
        SoftMaps x = new SoftMaps();
        x.load(-1, false);
        c.looks("2", x, 1, 2, -1, 0, 0, 0);
        x.load(-1, true);
        c.looks("6", x, 2, 6, -1, 0, 0, 0);
        x.set(32, 6);
        x.code(1024);
        c.looks("10", x, 3, 10, 1024, 0, 0, 0);
        x.load(2048, false);
        c.looks("9", x, 4, 9, 2048, 0, 0, 0);
        x.map(1024, 0, 0, false);
        x.map(1024, 0, 0, true);
        x.code(1024);
        c.looks("4", x, 5, 4, 1024, 0, 0, 0);
        x.store(1025, 0, false);
        c.looks("3", x, 6, 3, 1025, 0, 0, 0);
        x.set(32, 0);
        x.code(0);
        x.forget(true);
        x.forget(false);
        c.looks("the latest stays", x, 6, 3, 1025, 1, 0, 0);
        x.store(0, 0, false);
        c.looks("at 0", x, 7, 2, 0, 1, 0, 0);
    }

    private static void faultsAreNotCountedAsReads(Checks c) {
        SoftMaps x = new SoftMaps();
        x.code(32764);
        x.code(32768);
        c.looks("code", x, 1, 2, 32768, 1, 0, 0);
        x.load(65532, true);
        x.load(65536, true);
        c.looks("loads of words", x, 2, 2, 65536, 1, 1, 0);
        x.load(65535, false);
        x.load(65537, false);
        c.looks("loads of bytes", x, 3, 2, 65537, 1, 2, 0);
        x.store(32768, 1, true);
        x.store(32764, 1, true);
        c.looks("stores of words", x, 4, 2, 32764, 1, 2, 1);
        x.store(32768, 1, false);
        x.store(32767, 1, false);
        c.looks("stores of bytes", x, 5, 2, 32767, 1, 2, 2);
    }

    /** An object has 512 calls: some 500 of one kind, then the looks. */
    private static void countsOfAFullRun(Checks c) {
        SoftMaps code = new SoftMaps();
        SoftMaps load = new SoftMaps();
        SoftMaps store = new SoftMaps();
        SoftMaps fault = new SoftMaps();
        code.poke(32764, -9);
        load.poke(65532, -9);
        for (int i = 0; i < 500; i++) {
            c.due("read " + i, code.code(32764), -9);
            c.due("LOAD " + i, load.load(65532, true), -9);
            c.due("STORE " + i, store.store(32768 + i, i, false), 32768 + i);
            c.due("fault " + i, fault.store(65536 + i, i, false), -1);
        }
        c.looks("500 words of code", code, 0, 0, 0, 500, 0, 0, 0, 0);
        c.looks("500 loads", load, 0, 0, 0, 0, 500, 0, 0, 0);
        c.looks("500 stores", store, 0, 0, 0, 0, 0, 500, 0, 0);
        c.looks("500 faults", fault, 500, 2, 66035, 0, 0, 0, 0, 0);
    }

    private static void setsThatMatch(Checks c) {
        SoftMaps x = new SoftMaps();
        for (int sets = 0; sets < 8; sets++) {
            c.due("code", x.look(6), sets);
            c.due("data", x.look(7), 0);
            x.map(sets * 1024, 0, 0, false);
        }
        c.due("all of code", x.look(6), 8);
        for (int sets = 0; sets < 8; sets++) {
            c.due("code", x.look(6), 8);
            c.due("data", x.look(7), sets);
            x.map(sets * 1024, 0, 0, true);
        }
        c.due("all of data", x.look(7), 8);
        x.map(8192, 1, 1, false);
        c.due("another page of a SET", x.look(6), 8);
        x.set(0, 8192);
        x.set(23, 0);
        c.due("an even MATCH of code", x.look(6), 7);
        c.due("an even MATCH of data", x.look(7), 7);
        for (int k = 8; k < 16; k++) {
            x.set(k, -1);
            x.set(16 + k, -1);
        }
        x.set(32, 7);
        c.due("PLACES do not count for code", x.look(6), 7);
        c.due("PLACES do not count for data", x.look(7), 7);
    }

    private static void anyOtherWhich(Checks c) {
        SoftMaps x = new SoftMaps();
        States.busy(x);
        c.looks("busy", x, 1, 6, 40001, 1, 2, 3, 4, 4);
        c.due("look(-1)", x.look(-1), -1);
        c.due("look(8)", x.look(8), -1);
        for (int bit = 3; bit < 32; bit++) {
            c.due("look(2^" + bit + ")", x.look(1 << bit), -1);
            c.due("look(2^" + bit + " + 1)", x.look((1 << bit) + 1), -1);
            c.due("look(-2^" + bit + ")", x.look(-(1 << bit)), -1);
        }
        c.due("look(the highest int)", x.look(Integer.MAX_VALUE), -1);
        SoftMaps y = new SoftMaps();
        for (int which = -100; which < 200; which++) {
            c.due("look(" + which + ")", y.look(which), which < 0 || which > 7 ? -1 : 0);
        }
    }

    private static void nothingChanges(Checks c) {
        States.changesNothing(c, "look", States::busy, x -> {
            for (int which = -10; which < 20; which++) {
                x.look(which);
            }
            x.look(Integer.MIN_VALUE);
            x.look(Integer.MAX_VALUE);
        });
    }
}
