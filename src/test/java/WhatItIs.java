/**
 * "An object is used for at most 512 calls after it has been made": all of them are answered, the last one too, and
 * what is asked of one object is nothing to another.
 */
public final class WhatItIs {
    private static final int CALLS = 512;

    public static void main(String[] args) {
        Checks c = new Checks();
        theLastCallCounts(c);
        everyKindOfLastCall(c);
        everyPageIsWritten(c);
        objectsSideBySide(c);
        theSameCallsHaveTheSameAnswers(c);
        c.end();
    }

    private static void theLastCallCounts(Checks c) {
        SoftMaps reads = new SoftMaps();
        SoftMaps faults = new SoftMaps();
        for (int i = 1; i < CALLS; i++) {
            reads.code(4 * i);
            faults.store(i, i, false);
        }
        c.due("the 512th call: words read as code", reads.look(3), CALLS - 1);
        c.due("the 512th call: FAULTS", faults.look(0), CALLS - 1);
    }

    /** An object with 511 calls behind it: page 1 of code lies at frame 2, page 1 of data at frame 40. */
    private static SoftMaps beforeTheLast() {
        SoftMaps x = new SoftMaps();
        x.poke(2052, 0x01020304);
        x.poke(40964, 0x05060708);
        x.map(1024, 2, 1, false);
        x.map(1024, 40, 3, true);
        x.set(32, 6);
        for (int i = 5; i < CALLS - 1; i++) {
            x.find(i, i % 3, true);
        }
        return x;
    }

    private static void everyKindOfLastCall(Checks c) {
        c.due("poke", beforeTheLast().poke(0, 1), true);
        c.due("set", beforeTheLast().set(32, 0), true);
        c.due("code", beforeTheLast().code(1028), 0x01020304);
        c.due("load of a word", beforeTheLast().load(1028, true), 0x05060708);
        c.due("load of a byte", beforeTheLast().load(1030, false), 7);
        c.due("store", beforeTheLast().store(1028, 9, true), 40964);
        c.due("find", beforeTheLast().find(1028, 0, true), 2052);
        c.due("map", beforeTheLast().map(1024, 3, 1, false), 1);
        c.due("forget", beforeTheLast().forget(true), 1);
        c.due("special", beforeTheLast().special(25), 40963);
        c.due("word", beforeTheLast().word(40964), 0x05060708);
        c.due("look", beforeTheLast().look(7), 1);
    }

    private static void everyPageIsWritten(Checks c) {
        SoftMaps x = new SoftMaps();
        for (int i = 0; i < CALLS / 2; i++) {
            int place = i * 256 + i % 64 * 4;
            c.due("poke(" + place + ")", x.poke(place, i + 1), true);
        }
        for (int i = 0; i < CALLS / 2; i++) {
            int place = i * 256 + i % 64 * 4;
            c.due("word(" + place + ")", x.word(place), i + 1);
        }
    }

    private static void objectsSideBySide(Checks c) {
        SoftMaps[] all = new SoftMaps[5];
        for (int i = 0; i < all.length; i++) {
            all[i] = new SoftMaps();
        }
        for (int i = 0; i < all.length; i++) {
            SoftMaps x = all[i];
            x.poke(1024 * i, 100 + i);
            x.poke(65532, 200 + i);
            x.map(1024, i, 5, false);
            x.map(1024, 32 + i, 15, true);
            x.set(32, 6 + i % 2);
            for (int k = 0; k < i; k++) {
                x.code(1024);
                x.load(8192 + i, false);
                x.store(1024, 300 + i, true);
            }
        }
        for (int i = 0; i < all.length; i++) {
            SoftMaps x = all[i];
            String which = "object " + i;
            c.looks(which, x, i, i == 0 ? 0 : 9, i == 0 ? 0 : 8192 + i, i, 0, i, 1, 1);
            c.due(which + ": PLACE of code", x.special(9), 1024 * i + 5);
            c.due(which + ": PLACE of data", x.special(25), 1024 * (32 + i) + 15);
            c.due(which + ": MODE", x.special(32), 6 + i % 2);
            c.due(which + ": word(65532)", x.word(65532), 200 + i);
            for (int page = 0; page < all.length; page++) {
                c.due(which + ": page " + page, x.word(1024 * page), page == i ? 100 + i : 0);
                c.due(which + ": page " + (32 + page), x.word(1024 * (32 + page)), page == i && i > 0 ? 300 + i : 0);
            }
        }
    }

    private static void theSameCallsHaveTheSameAnswers(Checks c) {
        States.Calls calls = x -> {
            States.busy(x);
            x.map(-1, 63, 15, true);
            x.store(-1, 255, false);
        };
        int[] once = States.after(calls);
        int[] again = States.after(calls);
        for (int part = 0; part < once.length; part++) {
            c.due("part " + part + " of the state, again", again[part], once[part]);
        }
    }
}
