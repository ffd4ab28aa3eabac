/** "The word at a place; 0 if it is no multiple of 4 from 0 to 65532." */
public final class Edges11Word {
    public static void main(String[] args) {
        Checks c = new Checks();
        everyPlaceAroundMemory(c);
        lastAndFirstOutside(c);
        farPlaces(c);
        nothingChanges(c);
        c.end();
    }

    /** Each word is poked before its four bytes are asked for, so that none of them may answer 0 by chance. */
    private static void everyPlaceAroundMemory(Checks c) {
        SoftMaps x = null;
        for (int first = -64; first < 65536 + 64; first += 4) {
            if (first % 64 == 0) {
                x = new SoftMaps();
            }
            x.poke(first, ~first);
            boolean in = first >= 0 && first <= 65532;
            c.due("word(" + first + ")", x.word(first), in ? ~first : 0);
            for (int place = first + 1; place < first + 4; place++) {
                c.due("word(" + place + ")", x.word(place), 0);
            }
        }
    }

    private static SoftMaps ends() {
        SoftMaps x = new SoftMaps();
        for (int place : new int[] {0, 4, 32764, 32768, 65528, 65532}) {
            x.poke(place, -7);
        }
        return x;
    }

    private static void lastAndFirstOutside(Checks c) {
        SoftMaps x = ends();
        c.due("word(-4)", x.word(-4), 0);
        c.due("word(-1)", x.word(-1), 0);
        c.due("word(0)", x.word(0), -7);
        c.due("word(1)", x.word(1), 0);
        c.due("word(3)", x.word(3), 0);
        c.due("word(4)", x.word(4), -7);
        c.due("word(65532)", x.word(65532), -7);
        c.due("word(65533)", x.word(65533), 0);
        c.due("word(65535)", x.word(65535), 0);
        c.due("word(65536)", x.word(65536), 0);
    }

    private static void farPlaces(Checks c) {
        SoftMaps x = ends();
        for (int bit = 16; bit < 32; bit++) {
            for (int place : new int[] {0, 4, 32768, 65532}) {
                c.due("word(2^" + bit + " + " + place + ")", x.word((1 << bit) + place), 0);
            }
        }
        c.due("word(the highest int)", x.word(Integer.MAX_VALUE), 0);
        c.due("word(the highest multiple)", x.word(Integer.MAX_VALUE - 3), 0);
        c.due("word(-65536)", x.word(-65536), 0);
    }

    private static void nothingChanges(Checks c) {
        States.changesNothing(c, "word", States::busy, x -> {
            for (int place : new int[] {0, 1, 2, 3, 4, 32764, 32768, 65532, 65533, 65535, 65536, -1, -4,
                Integer.MIN_VALUE, Integer.MAX_VALUE}) {
                x.word(place);
            }
        });
    }
}
