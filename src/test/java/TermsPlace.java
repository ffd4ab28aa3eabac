/** "THE PLACE of an ADDRESS", with each "else" of it; "The first that is so is the FAULT." */
public final class TermsPlace {
    // Of page 5 in SET 5; the same SET holds page 13.
    private static final int V = 5 * 1024 + 512;
    private static final int SET = 5;

    public static void main(String[] args) {
        Checks c = new Checks();
        everyTest(c);
        for (int how = 0; how < 3; how++) {
            lowestBitOfMatch(c, how);
            bitsOfMatchWithoutMeaning(c, how);
            otherSetsDoNotServe(c, how);
            rightsBitByBit(c, how);
            highestPage(c, how);
            everyBitOfThePlace(c, how);
        }
        c.end();
    }

    private static int noMatch(int how) {
        return how == 0 ? -10 : -9;
    }

    private static int noRight(int how) {
        return how == 0 ? -4 : -3;
    }

    private static SoftMaps mapped(int how, int mode, int match, int place) {
        SoftMaps x = new SoftMaps();
        int first = how == 0 ? 0 : 16;
        x.set(32, mode);
        x.set(first + SET, match);
        x.set(first + 8 + SET, place);
        return x;
    }

    /** What can be wrong, in all its mixtures: the first in the document's order is the FAULT. */
    private static void everyTest(Checks c) {
        int[] matches = {5 * 1024 + 1, 5 * 1024, 13 * 1024 + 1, 0};
        int[] pages = {0, 31, 32, 63, 64, 1 << 21, -1};
        for (int mode = 0; mode < 8; mode++) {
            for (int how = 0; how < 3; how++) {
                for (int match : matches) {
                    for (int rights = 0; rights < 16; rights++) {
                        for (int page : pages) {
                            SoftMaps x = mapped(how, mode, match, page << 10 | rights);
                            everyOffset(c, x, how, mode, match, page, rights);
                        }
                    }
                }
            }
        }
    }

    private static void everyOffset(Checks c, SoftMaps x, int how, int mode, int match, int page, int rights) {
        boolean isMapped = (mode & (how == 0 ? 2 : 4)) != 0;
        int right = (how == 2 ? 2 : 1) * (mode % 2 == 1 ? 4 : 1);
        for (int i = 0; i < 8; i++) {
            boolean word = i % 2 == 0;
            int v = V + i / 2;
            long place = isMapped ? (page & 0x3FFFFFL) * 1024 + 512 + i / 2 : v;
            int due;
            if ((word || how == 0) && v % 4 != 0) {
                due = -6;
            } else if (isMapped && match != 5 * 1024 + 1) {
                due = noMatch(how);
            } else if (isMapped && (rights & right) == 0) {
                due = noRight(how);
            } else if (place >= (how == 0 ? 32768 : 65536) || how == 2 && place < 32768) {
                due = -2;
            } else {
                due = (int) place;
            }
            String what = "how " + how + " at " + v + (word ? " word" : " byte") + ", mode " + mode
                + ", match " + match + ", page " + page + ", rights " + rights;
            c.due("find: " + what, x.find(v, how, word), due);
            probe(c, what, x, v, how, word, due);
        }
    }

    private static void probe(Checks c, String what, SoftMaps x, int v, int how, boolean word, int due) {
        if (how == 0 && !word) {
            return;
        }
        int faults = x.look(0);
        int got = how == 0 ? x.code(v) : how == 1 ? x.load(v, word) : x.store(v, 0, word);
        c.due("answer: " + what, got, how == 2 ? Math.max(due, -1) : 0);
        c.due("FAULTS: " + what, x.look(0), due < 0 ? faults + 1 : faults);
        if (due < 0) {
            c.due("FAULT: " + what, x.look(1), -due);
            c.due("FAULT ADDRESS: " + what, x.look(2), v);
        }
    }

    private static void lowestBitOfMatch(Checks c, int how) {
        int place = 31 * 1024 + (how == 2 ? 1024 : 0) | 15;
        int due = place - 15 + 512;
        c.due("odd, how " + how, mapped(how, 6, 5 * 1024 | 1, place).find(V, how, true), due);
        c.due("even, how " + how, mapped(how, 6, 5 * 1024, place).find(V, how, true), noMatch(how));
        c.due("even, bits 1 to 9, how " + how, mapped(how, 6, 5 * 1024 | 1022, place).find(V, how, true), noMatch(how));
        c.due("page 4, how " + how, mapped(how, 6, 4 * 1024 | 1023, place).find(V, how, true), noMatch(how));
        c.due("page 6, how " + how, mapped(how, 6, 6 * 1024 | 1, place).find(V, how, true), noMatch(how));
        for (int bit = 10; bit < 32; bit++) {
            int other = (5 * 1024 | 1) ^ (1 << bit);
            c.due("match " + other + ", how " + how, mapped(how, 6, other, place).find(V, how, true), noMatch(how));
        }
    }

    private static void bitsOfMatchWithoutMeaning(Checks c, int how) {
        int place = 31 * 1024 + (how == 2 ? 1024 : 0) | 15;
        for (int bit = 1; bit < 10; bit++) {
            int match = 5 * 1024 | 1 | 1 << bit;
            c.due("match " + match + ", how " + how, mapped(how, 6, match, place).find(V, how, true), place - 15 + 512);
        }
    }

    private static void otherSetsDoNotServe(Checks c, int how) {
        int first = how == 0 ? 0 : 16;
        SoftMaps x = new SoftMaps();
        x.set(32, 6);
        for (int k = 0; k < 32; k++) {
            x.set(k, k % 16 < 8 ? 5 * 1024 | 1 : 31 * 1024 + (how == 2 ? 1024 : 0) | 15);
        }
        c.due("all SETS, how " + how, x.find(V, how, true), 31 * 1024 + (how == 2 ? 1024 : 0) + 512);
        x.set(first + SET, 0);
        c.due("all SETS but its own, how " + how, x.find(V, how, true), noMatch(how));
        x.set(first + SET, 5 * 1024 | 1);
        x.set(first + 8 + SET, 31 * 1024);
        c.due("no right in its own SET, how " + how, x.find(V, how, true), noRight(how));
    }

    private static void rightsBitByBit(Checks c, int how) {
        int page = how == 0 ? 0 : 63 * 1024;
        int[] userBit = {0, 0, 1};
        for (int bit = 0; bit < 10; bit++) {
            boolean user = bit == userBit[how];
            boolean supervisor = bit == userBit[how] + 2;
            int alone = page | 1 << bit;
            int without = page | 1023 ^ 1 << bit;
            String at = "bit " + bit + ", how " + how;
            c.due(at, mapped(how, 6, 5 * 1024 | 1, alone).find(V, how, true), user ? page + 512 : noRight(how));
            c.due("SUPERVISOR, " + at, mapped(how, 7, 5 * 1024 | 1, alone).find(V, how, true),
                supervisor ? page + 512 : noRight(how));
            c.due("all but " + at, mapped(how, 6, 5 * 1024 | 1, without).find(V, how, true),
                user ? noRight(how) : page + 512);
            c.due("SUPERVISOR, all but " + at, mapped(how, 7, 5 * 1024 | 1, without).find(V, how, true),
                supervisor ? noRight(how) : page + 512);
        }
    }

    private static void highestPage(Checks c, int how) {
        for (int page = -2; page < 68; page++) {
            SoftMaps x = mapped(how, 6, 5 * 1024 | 1, page << 10 | 15);
            int lowest = how == 2 ? 32 : 0;
            int highest = how == 0 ? 31 : 63;
            boolean in = page >= lowest && page <= highest;
            c.due("the first of page " + page + ", how " + how, x.find(5 * 1024, how, true), in ? page * 1024 : -2);
            c.due("the last of page " + page + ", how " + how, x.find(5 * 1024 + 1020, how, true),
                in ? page * 1024 + 1020 : -2);
        }
    }

    private static void everyBitOfThePlace(Checks c, int how) {
        for (int bit = 10; bit < 32; bit++) {
            int place = 1 << bit;
            SoftMaps x = mapped(how, 7, 5 * 1024 | 1, place | 15);
            int due;
            if (how == 0) {
                due = bit < 15 ? place + 512 : -2;
            } else if (how == 1) {
                due = bit < 16 ? place + 512 : -2;
            } else {
                due = bit == 15 ? place + 512 : -2;
            }
            c.due("place " + place + ", how " + how, x.find(V, how, true), due);
        }
    }
}
