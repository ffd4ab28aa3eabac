public final class Promise08Map {
    public static void main(String[] args) {
        Checks c = new Checks();
        everySet(c, false);
        everySet(c, true);
        edges(c);
        wrongOnesChangeNothing(c, false);
        wrongOnesChangeNothing(c, true);
        c.end();
    }

    private static void everySet(Checks c, boolean data) {
        SoftMaps x = new SoftMaps();
        int first = data ? 16 : 0;
        for (int s = 0; s < 8; s++) {
            int v = (8 * 5 + s) * 1024 + 100 * s + 3;
            c.due("map(" + v + ")", x.map(v, 60 - s, s + 8, data), s);
        }
        for (int s = 0; s < 8; s++) {
            c.due("match " + s, x.special(first + s), (40 + s) * 1024 + 1);
            c.due("place " + s, x.special(first + 8 + s), (60 - s) * 1024 + s + 8);
            c.due("the other match " + s, x.special(16 - first + s), 0);
            c.due("the other place " + s, x.special(24 - first + s), 0);
        }
        c.due("mode", x.special(32), 0);
        c.looks("after map", x, 0, 0, 0, 0, 0, 0, data ? 0 : 8, data ? 8 : 0);
    }

    private static void edges(Checks c) {
        SoftMaps x = new SoftMaps();
        c.due("the lowest of all", x.map(0, 0, 0, true), 0);
        c.due("its match", x.special(16), 1);
        c.due("its place", x.special(24), 0);
        c.due("the highest of all", x.map(-1, 63, 15, true), 7);
        c.due("its match", x.special(23), -1023);
        c.due("its place", x.special(31), 64527);
        c.due("2^31", x.map(Integer.MIN_VALUE, 1, 1, false), 0);
        c.due("its match", x.special(0), Integer.MIN_VALUE + 1);
        c.due("a page instead of another", x.map(8192, 2, 3, false), 0);
        c.due("its match", x.special(0), 8193);
        c.due("its place", x.special(8), 2051);
    }

    private static void wrongOnesChangeNothing(Checks c, boolean data) {
        SoftMaps x = new SoftMaps();
        for (int n : new int[] {-1, 64, 65, Integer.MIN_VALUE, Integer.MAX_VALUE}) {
            c.due("frame " + n, x.map(1024, n, 1, data), -1);
        }
        for (int n : new int[] {-1, 16, 17, Integer.MIN_VALUE, Integer.MAX_VALUE}) {
            c.due("rights " + n, x.map(1024, 1, n, data), -1);
        }
        c.due("both", x.map(1024, 64, 16, data), -1);
        c.allSpecialsAreZero("after wrong maps", x);
    }
}
