public final class Promise02Poke {
    public static void main(String[] args) {
        Checks c = new Checks();
        wordsComeToTheirPlaces(c);
        wrongPlacesChangeNothing(c);
        noMapIsAsked(c);
        theHighestByteIsFirst(c);
        c.end();
    }

    private static void wordsComeToTheirPlaces(Checks c) {
        int[] places = {0, 4, 1020, 1024, 32764, 32768, 65528, 65532};
        SoftMaps x = new SoftMaps();
        for (int i = 0; i < places.length; i++) {
            c.due("poke(" + places[i] + ")", x.poke(places[i], -1000 - i), true);
        }
        for (int i = 0; i < places.length; i++) {
            c.due("word(" + places[i] + ")", x.word(places[i]), -1000 - i);
        }
        c.due("beside a poke", x.word(8), 0);
        c.due("poke again", x.poke(65532, 0), true);
        c.due("word after it", x.word(65532), 0);
        c.looks("after pokes", x, 0, 0, 0, 0, 0, 0, 0, 0);
    }

    private static void wrongPlacesChangeNothing(Checks c) {
        int[] wrong = {1, 2, 3, 65533, 65534, 65535, 65536, 65540, -1, -4, 131072,
            Integer.MIN_VALUE, Integer.MAX_VALUE, Integer.MAX_VALUE - 3};
        SoftMaps x = new SoftMaps();
        for (int place : wrong) {
            c.due("poke(" + place + ")", x.poke(place, -1), false);
        }
        c.looks("after wrong pokes", x, 0, 0, 0, 0, 0, 0, 0, 0);
        c.memoryIsZero("after wrong pokes", x);
    }

    private static void noMapIsAsked(Checks c) {
        SoftMaps x = new SoftMaps();
        x.set(32, 6);
        x.map(0, 40, 15, true);
        c.due("poke with maps", x.poke(0, 5), true);
        c.due("its word", x.word(0), 5);
        c.due("the mapped place", x.word(40960), 0);
    }

    private static void theHighestByteIsFirst(Checks c) {
        SoftMaps x = new SoftMaps();
        x.poke(8, 0x81020384);
        int[] bytes = {0x81, 0x02, 0x03, 0x84};
        for (int i = 0; i < 4; i++) {
            c.due("byte " + i, x.load(8 + i, false), bytes[i]);
        }
    }
}
