/** "false if it is no multiple of 4 from 0 to 65532." */
public final class Edges02Poke {
    private static final int LOW = Integer.MIN_VALUE;
    private static final int HIGH = Integer.MAX_VALUE;

    public static void main(String[] args) {
        Checks c = new Checks();
        everyPlaceAroundMemory(c);
        lastTakenAndFirstRefused(c);
        farPlaces(c);
        everyTakenWordIsItsOwn(c);
        takenOnesChangeTheirWordAlone(c);
        refusedOnesChangeNothing(c);
        c.end();
    }

    private static void everyPlaceAroundMemory(Checks c) {
        SoftMaps x = null;
        for (int place = -512; place < 65536 + 512; place++) {
            if (place % 512 == 0) {
                x = new SoftMaps();
            }
            boolean taken = place >= 0 && place <= 65532 && place % 4 == 0;
            c.due("poke(" + place + ")", x.poke(place, place), taken);
        }
    }

    private static void lastTakenAndFirstRefused(Checks c) {
        SoftMaps x = new SoftMaps();
        c.due("poke(-4)", x.poke(-4, 1), false);
        c.due("poke(-1)", x.poke(-1, 2), false);
        c.due("poke(0)", x.poke(0, 3), true);
        c.due("poke(1)", x.poke(1, 4), false);
        c.due("poke(3)", x.poke(3, 5), false);
        c.due("poke(4)", x.poke(4, 6), true);
        c.due("poke(65531)", x.poke(65531, 7), false);
        c.due("poke(65532)", x.poke(65532, 8), true);
        c.due("poke(65533)", x.poke(65533, 9), false);
        c.due("poke(65535)", x.poke(65535, 10), false);
        c.due("poke(65536)", x.poke(65536, 11), false);
        c.due("word(0)", x.word(0), 3);
        c.due("word(4)", x.word(4), 6);
        c.due("word(65528)", x.word(65528), 0);
        c.due("word(65532)", x.word(65532), 8);
    }

    private static void farPlaces(Checks c) {
        SoftMaps x = new SoftMaps();
        for (int place : new int[] {LOW, LOW + 1, LOW + 4, LOW + 65532, -65536, -65532, 131072, 1 << 20, 1 << 24,
            1 << 30, HIGH - 3, HIGH}) {
            c.due("poke(" + place + ")", x.poke(place, 1), false);
        }
    }

    private static void everyTakenWordIsItsOwn(Checks c) {
        for (int from = 0; from < 65536; from += 512) {
            SoftMaps x = new SoftMaps();
            for (int place = from; place < from + 512; place += 4) {
                x.poke(place, ~place);
            }
            for (int place = from; place < from + 512; place += 4) {
                c.due("word(" + place + ")", x.word(place), ~place);
            }
            c.due("the word before", from == 0 ? 0 : x.word(from - 4), 0);
            c.due("the word after", from + 512 == 65536 ? 0 : x.word(from + 512), 0);
        }
    }

    private static void takenOnesChangeTheirWordAlone(Checks c) {
        for (int place : new int[] {0, 4, 1020, 1024, 32764, 32768, 65528, 65532}) {
            for (int word : new int[] {0, 1, -1, 0x80000001, LOW, HIGH}) {
                States.changes(c, "poke(" + place + ", " + word + ")", States::busy, x -> x.poke(place, word),
                    States.word(place), word);
            }
        }
    }

    private static void refusedOnesChangeNothing(Checks c) {
        for (int place : new int[] {-4, -1, 1, 2, 3, 65533, 65534, 65535, 65536, 65540, LOW, HIGH - 3, HIGH}) {
            States.changesNothing(c, "poke(" + place + ")", States::busy, x -> x.poke(place, 5));
        }
    }
}
