public final class Promise06Store {
    public static void main(String[] args) {
        Checks c = new Checks();
        unmapped(c);
        faultsUnmapped(c);
        mapped(c);
        supervisor(c);
        c.end();
    }

    private static void unmapped(Checks c) {
        SoftMaps x = new SoftMaps();
        c.due("the first word", x.store(32768, -5, true), 32768);
        c.due("it is there", x.word(32768), -5);
        c.due("the last word", x.store(65532, 0x01020304, true), 65532);
        c.due("the last byte", x.store(65535, 0x7FFFFFFE, false), 65535);
        c.due("it is in its word", x.word(65532), 0x010203FE);
        c.due("byte 0", x.store(65532, -1, false), 65532);
        c.due("byte 1", x.store(65533, 0x1A0, false), 65533);
        c.due("byte 2", x.store(65534, 0, false), 65534);
        c.due("the word", x.word(65532), 0xFFA000FE);
        c.due("beside it", x.word(65528), 0);
        c.due("a byte on a new page", x.store(50001, 0x77, false), 50001);
        c.due("its word", x.word(50000), 0x00770000);
        c.looks("stores", x, 0, 0, 0, 0, 0, 7);
    }

    private static void faultsUnmapped(Checks c) {
        SoftMaps x = new SoftMaps();
        int[] v = {32764, 32767, 0, 65536, -1, -4, 32770, 3, Integer.MIN_VALUE};
        boolean[] word = {true, false, true, false, false, true, true, true, true};
        int[] fault = {2, 2, 2, 2, 2, 2, 6, 6, 2};
        for (int i = 0; i < v.length; i++) {
            c.due("store(" + v[i] + ")", x.store(v[i], -1, word[i]), -1);
            c.looks("store(" + v[i] + ")", x, i + 1, fault[i], v[i], 0, 0, 0);
        }
        c.memoryIsZero("after faults", x);
    }

    private static void mapped(Checks c) {
        SoftMaps x = new SoftMaps();
        x.set(32, 4);
        c.due("no match", x.store(0, 1, true), -1);
        c.looks("no match", x, 1, 9, 0, 0, 0, 0);
        x.map(0, 32, 2, true);
        c.due("word", x.store(1020, 71, true), 32768 + 1020);
        c.due("it is there", x.word(32768 + 1020), 71);
        c.due("byte", x.store(1023, 72, false), 32768 + 1023);
        c.due("it is there", x.word(32768 + 1020), 72);
        x.map(0, 32, 13, true);
        c.due("right 2 is missing", x.store(0, 1, true), -1);
        c.looks("right 2 is missing", x, 2, 3, 0, 0, 0, 2);
        x.map(0, 31, 2, true);
        c.due("page 31 is code", x.store(1023, 1, false), -1);
        c.looks("page 31 is code", x, 3, 2, 1023, 0, 0, 2);
        x.map(0, 31, 13, true);
        c.due("3 before 2", x.store(1023, 1, false), -1);
        c.looks("3 before 2", x, 4, 3, 1023, 0, 0, 2);
        x.set(24, 65536 | 2);
        c.due("place 65536", x.store(0, 1, true), -1);
        c.looks("place 65536", x, 5, 2, 0, 0, 0, 2);
        c.due("6 is first", x.store(8193, 1, true), -1);
        c.looks("6 is first", x, 6, 6, 8193, 0, 0, 2);
        x.map(0, 63, 2, false);
        x.forget(true);
        c.due("a map of code", x.store(0, 1, true), -1);
        c.looks("a map of code", x, 7, 9, 0, 0, 0, 2);
        c.due("nothing came to page 31", x.word(31 * 1024 + 1020), 0);
    }

    private static void supervisor(Checks c) {
        SoftMaps x = new SoftMaps();
        x.set(32, 5);
        x.map(-1024, 63, 8, true);
        c.due("right 8", x.store(-1, 81, false), 65535);
        x.map(-1024, 63, 7, true);
        c.due("the others' right", x.store(-1, 82, false), -1);
        c.looks("the others' right", x, 1, 3, -1, 0, 0, 1);
        c.due("the word", x.word(65532), 81);
        x.set(32, 3);
        c.due("data is not mapped", x.store(65532, 83, true), 65532);
        c.looks("data is not mapped", x, 1, 3, -1, 0, 0, 2);
    }
}
