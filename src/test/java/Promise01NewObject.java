public final class Promise01NewObject {
    public static void main(String[] args) {
        Checks c = new Checks();
        c.due("NONE", SoftMaps.NONE, -1);
        c.allSpecialsAreZero("new", new SoftMaps());
        c.memoryIsZero("new", new SoftMaps());
        c.looks("new", new SoftMaps(), 0, 0, 0, 0, 0, 0, 0, 0);
        objectsShareNothing(c);
        c.end();
    }

    private static void objectsShareNothing(Checks c) {
        SoftMaps used = new SoftMaps();
        SoftMaps other = new SoftMaps();
        used.poke(0, 1);
        used.store(40000, 2, true);
        used.map(1024, 3, 4, true);
        used.map(1024, 3, 4, false);
        used.set(32, 7);
        used.code(2);
        c.looks("other", other, 0, 0, 0, 0, 0, 0, 0, 0);
        c.allSpecialsAreZero("other", other);
        c.memoryIsZero("other", other);
        c.looks("made later", new SoftMaps(), 0, 0, 0, 0, 0, 0, 0, 0);
    }
}
