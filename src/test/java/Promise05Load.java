public final class Promise05Load {
    public static void main(String[] args) {
        Checks c = new Checks();
        unmapped(c);
        faultsUnmapped(c);
        mapped(c);
        supervisor(c);
        codeMapsDoNotServe(c);
        c.end();
    }

    private static void unmapped(Checks c) {
        SoftMaps x = new SoftMaps();
        x.poke(0, 0xF1E2D3C4);
        x.poke(65532, 0x01020304);
        c.due("word 0", x.load(0, true), 0xF1E2D3C4);
        c.due("byte 0", x.load(0, false), 0xF1);
        c.due("byte 1", x.load(1, false), 0xE2);
        c.due("byte 2", x.load(2, false), 0xD3);
        c.due("byte 3", x.load(3, false), 0xC4);
        c.due("the last word", x.load(65532, true), 0x01020304);
        c.due("the last byte", x.load(65535, false), 4);
        c.due("never written", x.load(50000, true), 0);
        c.looks("loads", x, 0, 0, 0, 0, 8, 0);
    }

    private static void faultsUnmapped(Checks c) {
        SoftMaps x = new SoftMaps();
        x.poke(0, -1);
        x.poke(65532, -1);
        c.due("unaligned", x.load(2, true), 0);
        c.looks("unaligned", x, 1, 6, 2, 0, 0, 0);
        c.due("byte 65536", x.load(65536, false), 0);
        c.looks("byte 65536", x, 2, 2, 65536, 0, 0, 0);
        c.due("word 65536", x.load(65536, true), 0);
        c.looks("word 65536", x, 3, 2, 65536, 0, 0, 0);
        c.due("byte -1", x.load(-1, false), 0);
        c.looks("byte -1", x, 4, 2, -1, 0, 0, 0);
        c.due("word -1", x.load(-1, true), 0);
        c.looks("6 before 2", x, 5, 6, -1, 0, 0, 0);
        c.due("the lowest int", x.load(Integer.MIN_VALUE, true), 0);
        c.looks("the lowest int", x, 6, 2, Integer.MIN_VALUE, 0, 0, 0);
    }

    private static void mapped(Checks c) {
        SoftMaps x = new SoftMaps();
        x.poke(5 * 1024 + 4, 0x0A0B0C0D);
        x.set(32, 4);
        c.due("no match", x.load(3076, true), 0);
        c.looks("no match", x, 1, 9, 3076, 0, 0, 0);
        x.map(3072, 5, 1, true);
        c.due("word", x.load(3076, true), 0x0A0B0C0D);
        c.due("byte", x.load(3078, false), 0x0C);
        c.due("another page of the set", x.load(3076 + 8192, true), 0);
        c.looks("another page of the set", x, 2, 9, 11268, 0, 2, 0);
        x.map(3072, 5, 14, true);
        c.due("right 1 is missing", x.load(3076, false), 0);
        c.looks("right 1 is missing", x, 3, 3, 3076, 0, 2, 0);
        c.due("6 before 9", x.load(1, true), 0);
        c.looks("6 before 9", x, 4, 6, 1, 0, 2, 0);
        x.set(24 + 3, 65536 | 1);
        c.due("place 65536", x.load(3072, false), 0);
        c.looks("place 65536", x, 5, 2, 3072, 0, 2, 0);
        x.set(24 + 3, -1024);
        c.due("3 before 2", x.load(3072, false), 0);
        c.looks("3 before 2", x, 6, 3, 3072, 0, 2, 0);
        x.set(24 + 3, -1023);
        c.due("a place from 2^31 on", x.load(3072, false), 0);
        c.looks("a place from 2^31 on", x, 7, 2, 3072, 0, 2, 0);
    }

    private static void supervisor(Checks c) {
        SoftMaps x = new SoftMaps();
        x.poke(1024, 51);
        x.set(32, 5);
        x.map(-1024, 1, 4, true);
        c.due("right 4", x.load(-1024, true), 51);
        x.map(-1024, 1, 11, true);
        c.due("the others' right", x.load(-1024, true), 0);
        c.looks("the others' right", x, 1, 3, -1024, 0, 1, 0);
        x.set(32, 3);
        c.due("data is not mapped", x.load(1024, true), 51);
        c.looks("data is not mapped", x, 1, 3, -1024, 0, 2, 0);
    }

    private static void codeMapsDoNotServe(Checks c) {
        SoftMaps x = new SoftMaps();
        x.poke(0, 61);
        x.set(32, 2);
        c.due("only code is mapped", x.load(0, true), 61);
        x.set(32, 4);
        x.map(0, 0, 15, false);
        c.due("a map of code", x.load(0, true), 0);
        c.looks("a map of code", x, 1, 9, 0, 0, 1, 0);
    }
}
