public final class Promise04Code {
    public static void main(String[] args) {
        Checks c = new Checks();
        unmapped(c);
        mapped(c);
        supervisor(c);
        dataMapsDoNotServe(c);
        c.end();
    }

    private static void unmapped(Checks c) {
        SoftMaps x = new SoftMaps();
        x.poke(0, 11);
        x.poke(32764, -12);
        x.poke(32768, 13);
        c.due("code(0)", x.code(0), 11);
        c.due("code(32764)", x.code(32764), -12);
        c.looks("two reads", x, 0, 0, 0, 2, 0, 0);
        c.due("code(32768)", x.code(32768), 0);
        c.looks("too high", x, 1, 2, 32768, 2, 0, 0);
        c.due("code(32769)", x.code(32769), 0);
        c.looks("6 before 2", x, 2, 6, 32769, 2, 0, 0);
        c.due("code(-4)", x.code(-4), 0);
        c.looks("the last word", x, 3, 2, -4, 2, 0, 0);
        for (int v = 1; v < 4; v++) {
            c.due("code(" + v + ")", x.code(v), 0);
            c.looks("not a multiple", x, 3 + v, 6, v, 2, 0, 0);
        }
        c.due("code(0) again", x.code(0), 11);
        c.looks("a good read keeps the fault", x, 6, 6, 3, 3, 0, 0);
    }

    private static void mapped(Checks c) {
        SoftMaps x = new SoftMaps();
        x.poke(31 * 1024 + 1020, 21);
        x.set(32, 2);
        c.due("no match", x.code(9216 + 1020), 0);
        c.looks("no match", x, 1, 10, 10236, 0, 0, 0);
        c.due("unaligned is first", x.code(9217), 0);
        c.looks("unaligned is first", x, 2, 6, 9217, 0, 0, 0);
        x.map(9216, 31, 1, false);
        c.due("match", x.code(9216 + 1020), 21);
        c.due("another page of the set", x.code(1024), 0);
        c.looks("another page of the set", x, 3, 10, 1024, 1, 0, 0);
        x.map(9216, 31, 14, false);
        c.due("right 1 is missing", x.code(9216), 0);
        c.looks("right 1 is missing", x, 4, 4, 9216, 1, 0, 0);
        x.map(9216, 32, 1, false);
        c.due("page 32 is data", x.code(9220), 0);
        c.looks("page 32 is data", x, 5, 2, 9220, 1, 0, 0);
        x.map(9216, 32, 0, false);
        c.due("4 before 2", x.code(9220), 0);
        c.looks("4 before 2", x, 6, 4, 9220, 1, 0, 0);
    }

    private static void supervisor(Checks c) {
        SoftMaps x = new SoftMaps();
        x.poke(2048, 31);
        x.set(32, 3);
        x.map(-1024, 2, 4, false);
        c.due("right 4", x.code(-1024), 31);
        x.map(-1024, 2, 11, false);
        c.due("the others' right", x.code(-1024), 0);
        c.looks("the others' right", x, 1, 4, -1024, 1, 0, 0);
        x.set(32, 1);
        c.due("not mapped", x.code(2048), 31);
        c.looks("not mapped", x, 1, 4, -1024, 2, 0, 0);
    }

    private static void dataMapsDoNotServe(Checks c) {
        SoftMaps x = new SoftMaps();
        x.poke(0, 41);
        x.set(32, 4);
        c.due("only data is mapped", x.code(0), 41);
        x.set(32, 2);
        x.map(0, 0, 15, true);
        c.due("a map of data", x.code(0), 0);
        c.looks("a map of data", x, 1, 10, 0, 1, 0, 0);
    }
}
