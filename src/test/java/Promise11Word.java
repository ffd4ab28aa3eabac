public final class Promise11Word {
    public static void main(String[] args) {
        Checks c = new Checks();
        everyPlaceIsItsOwn(c);
        wrongPlaces(c);
        noMapIsAsked(c);
        c.end();
    }

    private static void everyPlaceIsItsOwn(Checks c) {
        SoftMaps pages = new SoftMaps();
        for (int place = 512; place < 65536; place += 1024) {
            pages.poke(place, ~place);
        }
        for (int place = 512; place < 65536; place += 1024) {
            c.due("word(" + place + ")", pages.word(place), ~place);
        }
        c.memoryIsZero("beside them", pages);
        SoftMaps words = new SoftMaps();
        for (int place = 39936; place < 40960; place += 4) {
            words.poke(place, ~place);
        }
        for (int place = 39936; place < 40960; place += 4) {
            c.due("word(" + place + ")", words.word(place), ~place);
        }
    }

    private static void wrongPlaces(Checks c) {
        SoftMaps x = new SoftMaps();
        x.poke(0, -1);
        x.poke(65532, -1);
        c.due("word(0)", x.word(0), -1);
        c.due("word(65532)", x.word(65532), -1);
        for (int place : new int[] {1, 2, 3, 65533, 65534, 65535, 65536, -1, -4, -65536,
            Integer.MIN_VALUE, Integer.MAX_VALUE}) {
            c.due("word(" + place + ")", x.word(place), 0);
        }
        c.looks("after word", x, 0, 0, 0, 0, 0, 0);
    }

    private static void noMapIsAsked(Checks c) {
        SoftMaps x = new SoftMaps();
        x.poke(8, 91);
        x.map(0, 40, 15, true);
        x.map(0, 20, 15, false);
        x.set(32, 7);
        c.due("word(8)", x.word(8), 91);
        c.looks("after word", x, 0, 0, 0, 0, 0, 0);
    }
}
