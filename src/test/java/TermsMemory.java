/**
 * "MEMORY has 65536 bytes, 0 at first; a word lies at a multiple of 4, its highest byte first. CODE is below
 * 32768, DATA from there on."
 */
public final class TermsMemory {
    private static final int[] BYTES = {0x81, 0x02, 0xFF, 0x7E};
    private static final int WORD = 0x8102FF7E;

    public static void main(String[] args) {
        Checks c = new Checks();
        bytesAreZeroAtFirst(c);
        nothingIsBeyondTheEnds(c);
        everyByteIsItsOwn(c);
        highestByteFirst(c);
        whereCodeEndsAndDataBegins(c);
        everyAddressAroundMemory(c);
        c.end();
    }

    private static void bytesAreZeroAtFirst(Checks c) {
        SoftMaps x = null;
        for (int v = 0; v < 65536; v++) {
            if (v % 256 == 0) {
                x = new SoftMaps();
            }
            c.due("load(" + v + ", false)", x.load(v, false), 0);
            if (v % 256 == 255) {
                c.looks("bytes to " + v, x, 0, 0, 0, 0, 256, 0);
            }
        }
    }

    private static void nothingIsBeyondTheEnds(Checks c) {
        SoftMaps x = new SoftMaps();
        x.poke(0, -1);
        x.poke(65532, -1);
        c.due("the first byte", x.load(0, false), 255);
        c.due("the last byte", x.load(65535, false), 255);
        c.due("the first word", x.load(0, true), -1);
        c.due("the last word", x.load(65532, true), -1);
        c.looks("within", x, 0, 0, 0, 0, 4, 0);
        c.due("a byte after the last", x.load(65536, false), 0);
        c.looks("a byte after the last", x, 1, 2, 65536, 0, 4, 0);
        c.due("a word after the last", x.load(65536, true), 0);
        c.looks("a word after the last", x, 2, 2, 65536, 0, 4, 0);
        c.due("a byte before the first", x.load(-1, false), 0);
        c.looks("a byte before the first", x, 3, 2, -1, 0, 4, 0);
        c.due("a word before the first", x.load(-4, true), 0);
        c.looks("a word before the first", x, 4, 2, -4, 0, 4, 0);
        c.due("a store after the last", x.store(65536, 0, false), -1);
        c.due("the first word still", x.word(0), -1);
        c.due("the last word still", x.word(65532), -1);
    }

    private static int byteFor(int place) {
        return (place * 31 + place / 256 * 7) & 255;
    }

    private static void everyByteIsItsOwn(Checks c) {
        for (int first = 32768; first < 65536; first += 128) {
            SoftMaps x = new SoftMaps();
            for (int place = first; place < first + 128; place++) {
                c.due("store(" + place + ")", x.store(place, byteFor(place), false), place);
            }
            for (int place = first; place < first + 128; place++) {
                c.due("load(" + place + ")", x.load(place, false), byteFor(place));
            }
            for (int place = first; place < first + 128; place += 4) {
                int word = byteFor(place) << 24 | byteFor(place + 1) << 16
                    | byteFor(place + 2) << 8 | byteFor(place + 3);
                c.due("word(" + place + ")", x.word(place), word);
            }
            c.due("before them", first == 32768 ? 0 : x.word(first - 4), 0);
            c.due("after them", first == 65408 ? 0 : x.word(first + 128), 0);
        }
    }

    private static void highestByteFirst(Checks c) {
        for (int place : new int[] {0, 4, 1020, 1024, 32764, 32768, 33788, 65528, 65532}) {
            SoftMaps x = new SoftMaps();
            x.poke(place, WORD);
            c.due("word(" + place + ")", x.word(place), WORD);
            for (int i = 0; i < 4; i++) {
                c.due("load(" + (place + i) + ", false)", x.load(place + i, false), BYTES[i]);
            }
            c.due("load(" + place + ", true)", x.load(place, true), WORD);
        }
        for (int i = 0; i < 4; i++) {
            SoftMaps x = new SoftMaps();
            x.poke(40000, WORD);
            x.store(40000 + i, 0x55, false);
            int shift = 24 - 8 * i;
            c.due("a word whose byte " + i + " is stored", x.word(40000), WORD & ~(255 << shift) | 0x55 << shift);
        }
    }

    private static void whereCodeEndsAndDataBegins(Checks c) {
        SoftMaps x = new SoftMaps();
        x.poke(32764, 17);
        x.poke(32768, 18);
        c.due("the last word of code", x.code(32764), 17);
        c.looks("the last word of code", x, 0, 0, 0, 1, 0, 0);
        c.due("the first word after it", x.code(32768), 0);
        c.looks("the first word after it", x, 1, 2, 32768, 1, 0, 0);
        c.due("the last word before data", x.store(32764, 5, true), -1);
        c.looks("the last word before data", x, 2, 2, 32764, 1, 0, 0);
        c.due("the last byte before data", x.store(32767, 5, false), -1);
        c.looks("the last byte before data", x, 3, 2, 32767, 1, 0, 0);
        c.due("it is not stored", x.word(32764), 17);
        c.due("the first byte of data", x.store(32768, 5, false), 32768);
        c.due("it is stored", x.word(32768), 0x05000012);
        c.due("the first word of data", x.store(32768, 6, true), 32768);
        c.due("it is stored", x.word(32768), 6);
        c.due("code may be loaded", x.load(32764, true), 17);
        c.looks("at the border", x, 3, 2, 32767, 1, 1, 2);
    }

    private static void everyAddressAroundMemory(Checks c) {
        SoftMaps x = null;
        for (int v = -64; v < 65536 + 64; v++) {
            if (v % 64 == 0) {
                x = new SoftMaps();
            }
            boolean multiple = v % 4 == 0;
            int code = !multiple ? -6 : v >= 0 && v < 32768 ? v : -2;
            int load = v >= 0 && v < 65536 ? v : -2;
            int store = v >= 32768 && v < 65536 ? v : -2;
            c.due("code at " + v, x.find(v, 0, true), code);
            c.due("code at " + v + ", not of a word", x.find(v, 0, false), code);
            c.due("LOAD of a word at " + v, x.find(v, 1, true), multiple ? load : -6);
            c.due("LOAD of a byte at " + v, x.find(v, 1, false), load);
            c.due("STORE of a word at " + v, x.find(v, 2, true), multiple ? store : -6);
            c.due("STORE of a byte at " + v, x.find(v, 2, false), store);
        }
    }
}
