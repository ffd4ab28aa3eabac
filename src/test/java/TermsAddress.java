/**
 * "an ADDRESS is one without a sign"; "An ADDRESS v is of page v / 1024, whose SET is page modulo 8".
 */
public final class TermsAddress {
    private static final int LOW = Integer.MIN_VALUE;
    private static final int HIGH = Integer.MAX_VALUE;

    public static void main(String[] args) {
        Checks c = new Checks();
        setsAndPages(c, false);
        setsAndPages(c, true);
        for (int page : new int[] {0, LOW, -1024, 0x55555400, 0x7FFFFC00}) {
            everyBitOfThePageCounts(c, page);
            bitsOfTheOffsetComeToThePlace(c, page);
        }
        from2To31OnIsAboveMemory(c);
        multiplesOf4From2To31On(c);
        c.end();
    }

    private static void setsAndPages(Checks c, boolean data) {
        int[] v = {0, 1023, 1024, 7167, 7168, 8191, 8192, HIGH - 1023, HIGH,
            LOW, LOW + 1023, LOW + 1024, -8193, -8192, -7169, -7168, -1025, -1024, -1};
        int[] set = {0, 0, 1, 6, 7, 7, 0, 7, 7,
            0, 0, 1, 7, 0, 0, 1, 6, 7, 7};
        int[] match = {1, 1, 1025, 6145, 7169, 7169, 8193, 0x7FFFFC01, 0x7FFFFC01,
            0x80000001, 0x80000001, 0x80000401, 0xFFFFDC01, 0xFFFFE001, 0xFFFFE001, 0xFFFFE401, 0xFFFFF801,
            0xFFFFFC01, 0xFFFFFC01};
        for (int i = 0; i < v.length; i++) {
            SoftMaps x = new SoftMaps();
            c.due("map(" + v[i] + ")", x.map(v[i], 1, 1, data), set[i]);
            c.due("MATCH for " + v[i], x.special((data ? 16 : 0) + set[i]), match[i]);
        }
    }

    /** All SETS hold the page, so an ADDRESS of another page is not matched by its own SET nor by any other. */
    private static void everyBitOfThePageCounts(Checks c, int page) {
        SoftMaps x = new SoftMaps();
        x.set(32, 6);
        for (int s = 0; s < 8; s++) {
            x.set(s, page | 1);
            x.set(8 + s, 1024 | 3);
            x.set(16 + s, page | 1);
            x.set(24 + s, 33 * 1024 | 3);
        }
        c.due("code at " + page, x.find(page, 0, true), 1024);
        c.due("LOAD at " + page, x.find(page, 1, true), 33 * 1024);
        c.due("STORE at " + page, x.find(page, 2, true), 33 * 1024);
        for (int bit = 10; bit < 32; bit++) {
            int v = page ^ (1 << bit);
            c.due("code at " + v, x.find(v, 0, true), -10);
            c.due("LOAD at " + v, x.find(v, 1, true), -9);
            c.due("STORE at " + v, x.find(v, 2, false), -9);
        }
    }

    private static void bitsOfTheOffsetComeToThePlace(Checks c, int page) {
        SoftMaps x = new SoftMaps();
        x.set(32, 6);
        x.map(page, 31, 3, false);
        x.map(page, 63, 3, true);
        for (int bit = 0; bit < 10; bit++) {
            int offset = 1 << bit;
            int v = page | offset;
            c.due("code at " + v, x.find(v, 0, true), bit < 2 ? -6 : 31 * 1024 + offset);
            c.due("LOAD at " + v, x.find(v, 1, false), 63 * 1024 + offset);
            c.due("STORE at " + v, x.find(v, 2, false), 63 * 1024 + offset);
        }
        c.due("the last word of code", x.find(page | 1020, 0, true), 32764);
        c.due("the last byte", x.find(page | 1023, 2, false), 65535);
    }

    private static void from2To31OnIsAboveMemory(Checks c) {
        SoftMaps x = new SoftMaps();
        int fault = 0;
        for (int v : new int[] {HIGH - 3, LOW, LOW + 4, LOW + 32768, -65536, -32768, -1024, -4}) {
            c.due("code(" + v + ")", x.code(v), 0);
            c.looks("code(" + v + ")", x, ++fault, 2, v, 0, 0, 0);
            c.due("load(" + v + ")", x.load(v, true), 0);
            c.looks("load(" + v + ")", x, ++fault, 2, v, 0, 0, 0);
            c.due("store(" + v + ")", x.store(v, 1, true), -1);
            c.looks("store(" + v + ")", x, ++fault, 2, v, 0, 0, 0);
        }
        SoftMaps y = new SoftMaps();
        fault = 0;
        for (int v : new int[] {HIGH, LOW + 1, LOW + 32769, -32767, -1}) {
            c.due("load of the byte " + v, y.load(v, false), 0);
            c.looks("load of the byte " + v, y, ++fault, 2, v, 0, 0, 0);
            c.due("store of the byte " + v, y.store(v, 1, false), -1);
            c.looks("store of the byte " + v, y, ++fault, 2, v, 0, 0, 0);
        }
    }

    private static void multiplesOf4From2To31On(Checks c) {
        SoftMaps x = new SoftMaps();
        for (int end : new int[] {0, LOW}) {
            for (int i = -8; i < 8; i++) {
                int v = end + i;
                boolean inMemory = v >= 0 && v < 8;
                int due = i % 4 != 0 ? -6 : inMemory ? v : -2;
                c.due("code at " + v, x.find(v, 0, true), due);
                c.due("LOAD at " + v, x.find(v, 1, true), due);
                c.due("STORE at " + v, x.find(v, 2, true), i % 4 != 0 ? -6 : -2);
            }
        }
    }
}
