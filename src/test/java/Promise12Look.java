public final class Promise12Look {
    public static void main(String[] args) {
        Checks c = new Checks();
        everyCountIsItsOwn(c);
        matches(c);
        wrongWhich(c);
        c.end();
    }

    private static void everyCountIsItsOwn(Checks c) {
        SoftMaps x = new SoftMaps();
        x.code(0);
        c.looks("code", x, 0, 0, 0, 1, 0, 0, 0, 0);
        x.load(0, true);
        x.load(1, false);
        c.looks("loads", x, 0, 0, 0, 1, 2, 0, 0, 0);
        x.store(32768, 1, true);
        x.store(32769, 1, false);
        x.store(32770, 1, false);
        c.looks("stores", x, 0, 0, 0, 1, 2, 3, 0, 0);
        x.code(-2);
        c.looks("a fault of code", x, 1, 6, -2, 1, 2, 3, 0, 0);
        x.load(65536, false);
        c.looks("a fault of a load", x, 2, 2, 65536, 1, 2, 3, 0, 0);
        x.store(0, 1, false);
        c.looks("a fault at 0", x, 3, 2, 0, 1, 2, 3, 0, 0);
        x.find(-1, 2, true);
        x.word(1);
        x.poke(1, 1);
        x.special(33);
        x.set(33, 1);
        x.map(0, 64, 0, true);
        c.looks("what is no probe", x, 3, 2, 0, 1, 2, 3, 0, 0);
        x.set(32, 6);
        x.code(4);
        c.looks("no match for code", x, 4, 10, 4, 1, 2, 3, 0, 0);
        x.load(8, true);
        c.looks("no match for data", x, 5, 9, 8, 1, 2, 3, 0, 0);
    }

    private static void matches(Checks c) {
        SoftMaps x = new SoftMaps();
        for (int s = 0; s < 8; s++) {
            c.due("code", x.look(6), s);
            x.set(s, -1);
        }
        c.due("code", x.look(6), 8);
        for (int s = 0; s < 8; s++) {
            c.due("data", x.look(7), s);
            x.set(16 + s, 1);
        }
        c.due("data", x.look(7), 8);
        x.set(3, 1024);
        x.set(20, -2);
        c.due("one of code less", x.look(6), 7);
        c.due("one of data less", x.look(7), 7);
        for (int s = 0; s < 8; s++) {
            x.set(8 + s, 1);
            x.set(24 + s, 1);
        }
        x.set(32, 1);
        c.due("places do not count for code", x.look(6), 7);
        c.due("places do not count for data", x.look(7), 7);
    }

    private static void wrongWhich(Checks c) {
        SoftMaps x = new SoftMaps();
        x.code(1);
        for (int which : new int[] {-1, 8, 9, Integer.MIN_VALUE, Integer.MAX_VALUE}) {
            c.due("look(" + which + ")", x.look(which), -1);
        }
        c.looks("after look", x, 1, 6, 1, 0, 0, 0, 0, 0);
    }
}
