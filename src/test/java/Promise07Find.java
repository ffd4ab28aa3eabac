public final class Promise07Find {
    public static void main(String[] args) {
        Checks c = new Checks();
        unmapped(c);
        rights(c);
        matches(c);
        wrongHow(c);
        c.end();
    }

    private static void all(Checks c, SoftMaps x, int v, int... want) {
        for (int i = 0; i < 6; i++) {
            boolean word = i % 2 == 0;
            c.due("find(" + v + ", " + i / 2 + ", " + word + ")", x.find(v, i / 2, word), want[i]);
        }
        c.looks("after find", x, 0, 0, 0, 0, 0, 0);
    }

    private static void unmapped(Checks c) {
        SoftMaps x = new SoftMaps();
        all(c, x, 0, 0, 0, 0, 0, -2, -2);
        all(c, x, 1, -6, -6, -6, 1, -6, -2);
        all(c, x, 32764, 32764, 32764, 32764, 32764, -2, -2);
        all(c, x, 32767, -6, -6, -6, 32767, -6, -2);
        all(c, x, 32768, -2, -2, 32768, 32768, 32768, 32768);
        all(c, x, 65532, -2, -2, 65532, 65532, 65532, 65532);
        all(c, x, 65535, -6, -6, -6, 65535, -6, 65535);
        all(c, x, 65536, -2, -2, -2, -2, -2, -2);
        all(c, x, -1, -6, -6, -6, -2, -6, -2);
        all(c, x, Integer.MIN_VALUE, -2, -2, -2, -2, -2, -2);
    }

    private static void rights(Checks c) {
        SoftMaps x = new SoftMaps();
        for (int mode = 6; mode <= 7; mode++) {
            x.set(32, mode);
            for (int rights = 0; rights < 16; rights++) {
                x.map(2048, 31, rights, false);
                x.map(2048, 33, rights, true);
                int own = mode == 7 ? rights >> 2 : rights;
                int code = (own & 1) != 0 ? 31 * 1024 + 8 : -4;
                int load = (own & 1) != 0 ? 33 * 1024 + 8 : -3;
                int store = (own & 2) != 0 ? 33 * 1024 + 8 : -3;
                all(c, x, 2056, code, code, load, load, store, store);
            }
        }
    }

    private static void matches(Checks c) {
        SoftMaps x = new SoftMaps();
        x.set(32, 6);
        x.set(12, 15);
        x.set(28, 32768 | 15);
        all(c, x, 4096, -10, -10, -9, -9, -9, -9);
        x.set(4, 4096 | 1023);
        x.set(20, 4096 | 1023);
        all(c, x, 4096, 0, 0, 32768, 32768, 32768, 32768);
        x.set(4, 4096 | 1022);
        x.set(20, 4096 | 1022);
        all(c, x, 4096, -10, -10, -9, -9, -9, -9);
        x.set(4, Integer.MIN_VALUE | 4097);
        x.set(20, Integer.MIN_VALUE | 4097);
        all(c, x, 4096, -10, -10, -9, -9, -9, -9);
        all(c, x, Integer.MIN_VALUE | 4100, 4, 4, 32772, 32772, 32772, 32772);
        x.set(12, 1023 | 32768);
        x.set(28, 1023 | 65536);
        all(c, x, Integer.MIN_VALUE | 4100, -2, -2, -2, -2, -2, -2);
        x.set(12, -1);
        x.set(28, -1);
        all(c, x, Integer.MIN_VALUE | 4100, -2, -2, -2, -2, -2, -2);
        x.set(28, 32767);
        c.due("LOAD of code", x.find(Integer.MIN_VALUE | 4100, 1, true), 31748);
        c.due("STORE to code", x.find(Integer.MIN_VALUE | 4100, 2, true), -2);
    }

    private static void wrongHow(Checks c) {
        SoftMaps x = new SoftMaps();
        for (int how : new int[] {-1, 3, 4, Integer.MIN_VALUE, Integer.MAX_VALUE}) {
            c.due("how " + how, x.find(40001, how, true), 0);
            c.due("how " + how, x.find(40000, how, false), 0);
        }
        c.looks("after find", x, 0, 0, 0, 0, 0, 0);
    }
}
