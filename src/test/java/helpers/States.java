/**
 * Whole states of objects: what look answers, every SPECIAL, every word of MEMORY. An object is used for at
 * most 512 calls, so the words are read from many objects that all had the same calls before.
 */
final class States {
    interface Calls {
        void on(SoftMaps x);
    }

    private static final int LOOKS = 8;
    private static final int SPECIALS = 33;
    private static final int WORDS = 16384;
    // With the 109 calls of busy this leaves 147 to a test.
    private static final int WORDS_OF_ONE_OBJECT = 256;

    private States() {
    }

    static int look(int which) {
        return which;
    }

    static int special(int k) {
        return LOOKS + k;
    }

    static int word(int place) {
        return LOOKS + SPECIALS + place / 4;
    }

    static int[] after(Calls calls) {
        int[] state = new int[LOOKS + SPECIALS + WORDS];
        SoftMaps first = new SoftMaps();
        calls.on(first);
        for (int which = 0; which < LOOKS; which++) {
            state[look(which)] = first.look(which);
        }
        for (int k = 0; k < SPECIALS; k++) {
            state[special(k)] = first.special(k);
        }
        SoftMaps x = null;
        for (int i = 0; i < WORDS; i++) {
            if (i % WORDS_OF_ONE_OBJECT == 0) {
                x = new SoftMaps();
                calls.on(x);
            }
            state[word(4 * i)] = x.word(4 * i);
        }
        return state;
    }

    /** The calls change these parts of the state (pairs of a part and its value after them) and no other. */
    static void changes(Checks c, String what, Calls before, Calls calls, int... partsAndValues) {
        int[] due = after(before);
        for (int i = 0; i < partsAndValues.length; i += 2) {
            due[partsAndValues[i]] = partsAndValues[i + 1];
        }
        int[] got = after(x -> {
            before.on(x);
            calls.on(x);
        });
        for (int part = 0; part < due.length; part++) {
            c.due("after " + what + ": " + name(part), got[part], due[part]);
        }
    }

    static void changesNothing(Checks c, String what, Calls before, Calls calls) {
        changes(c, what, before, calls);
    }

    /**
     * No part of this state is 0 but most words: each page has one, and so have the ends of code and data.
     * FAULTS 1, the latest 6 at 40001, read as code 1, LOADS 2, STORES 3, SETS of code that match 4, of data 4;
     * the SUPERVISOR with both maps. It makes 109 calls.
     */
    static void busy(SoftMaps x) {
        for (int page = 0; page < 64; page++) {
            x.poke(page * 1024 + page * 12, 0x11223344 + page);
        }
        for (int place : new int[] {0, 4, 32764, 32768, 65532}) {
            x.poke(place, 0xA1B2C3D4);
        }
        x.code(0);
        x.load(0, true);
        x.load(1, false);
        for (int i = 0; i < 3; i++) {
            x.store(65528, 0x55667788, true);
        }
        x.code(40001);
        for (int k = 0; k < 32; k++) {
            x.set(k, (k + 1) * 0x01010101);
        }
        x.set(32, 7);
    }

    private static String name(int part) {
        if (part < LOOKS) {
            return "look(" + part + ")";
        }
        int rest = part - LOOKS;
        return rest < SPECIALS ? "special(" + rest + ")" : "word(" + 4 * (rest - SPECIALS) + ")";
    }
}
