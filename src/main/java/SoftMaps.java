/** Maps of pages that a program keeps itself; ../shared/DOC.md is its document. */
public final class SoftMaps {
    public static final int NONE = -1;

    private static final int SETS = 8;
    private static final int SPECIALS = 33;
    private static final int CODE_MATCH = 0;
    private static final int DATA_MATCH = 16;
    private static final int MATCH_TO_PLACE = 8;
    private static final int MODE = 32;

    private static final int SUPERVISOR = 1;
    private static final int CODE_MAPPED = 2;
    private static final int DATA_MAPPED = 4;
    private static final int MODE_BITS = SUPERVISOR | CODE_MAPPED | DATA_MAPPED;

    private static final int PAGE_SHIFT = 10;
    private static final int OFFSET_BITS = 1023;
    private static final int FRAMES = 64;
    private static final int RIGHTS = 16;
    private static final int READ_RIGHT = 1;
    private static final int WRITE_RIGHT = 2;
    private static final int TO_SUPERVISOR_RIGHT = 2;

    private static final int HOW_CODE = 0;
    private static final int HOW_LOAD = 1;
    private static final int HOW_STORE = 2;

    private static final int OUTSIDE = 2;
    private static final int DATA_RIGHT_MISSING = 3;
    private static final int CODE_RIGHT_MISSING = 4;
    private static final int UNALIGNED = 6;
    private static final int DATA_UNMATCHED = 9;
    private static final int CODE_UNMATCHED = 10;

    private static final int BYTES = 65536;
    private static final int DATA_START = 32768;

    private final Memory memory = new Memory();
    private final int[] specials = new int[SPECIALS];
    private int faults;
    private int latestFault;
    private int faultAddress;
    private int codeReads;
    private int loads;
    private int stores;

    public SoftMaps() {
    }

    public boolean poke(int place, int word) {
        if (!isWordPlace(place)) {
            return false;
        }
        memory.putWord(place, word);
        return true;
    }

    public boolean set(int special, int value) {
        if (!isSpecial(special)) {
            return false;
        }
        specials[special] = special == MODE ? value & MODE_BITS : value;
        return true;
    }

    public int code(int v) {
        int place = probe(v, HOW_CODE, true);
        if (place < 0) {
            return 0;
        }
        codeReads++;
        return memory.wordAt(place);
    }

    public int load(int v, boolean word) {
        int place = probe(v, HOW_LOAD, word);
        if (place < 0) {
            return 0;
        }
        loads++;
        return word ? memory.wordAt(place) : memory.byteAt(place);
    }

    public int store(int v, int value, boolean word) {
        int place = probe(v, HOW_STORE, word);
        if (place < 0) {
            return NONE;
        }
        stores++;
        if (word) {
            memory.putWord(place, value);
        } else {
            memory.putByte(place, value);
        }
        return place;
    }

    public int find(int v, int how, boolean word) {
        if (how < HOW_CODE || how > HOW_STORE) {
            return 0;
        }
        return locate(v, how, word || how == HOW_CODE);
    }

    public int map(int v, int frame, int rights, boolean data) {
        if (frame < 0 || frame >= FRAMES || rights < 0 || rights >= RIGHTS) {
            return NONE;
        }
        int set = setOf(v);
        int match = firstMatch(data) + set;
        specials[match] = (v & ~OFFSET_BITS) | 1;
        specials[match + MATCH_TO_PLACE] = (frame << PAGE_SHIFT) | rights;
        return set;
    }

    public int forget(boolean data) {
        int before = countMatches(data);
        int first = firstMatch(data);
        for (int s = 0; s < SETS; s++) {
            specials[first + s] &= ~1;
        }
        return before;
    }

    public int special(int k) {
        return isSpecial(k) ? specials[k] : 0;
    }

    public int word(int place) {
        return isWordPlace(place) ? memory.wordAt(place) : 0;
    }

    public int look(int which) {
        switch (which) {
            case 0:
                return faults;
            case 1:
                return latestFault;
            case 2:
                return faultAddress;
            case 3:
                return codeReads;
            case 4:
                return loads;
            case 5:
                return stores;
            case 6:
                return countMatches(false);
            case 7:
                return countMatches(true);
            default:
                return NONE;
        }
    }

    /** The place, or less the fault, which is then noted. */
    private int probe(int v, int how, boolean word) {
        int found = locate(v, how, word);
        if (found < 0) {
            faults++;
            latestFault = -found;
            faultAddress = v;
        }
        return found;
    }

    /** The place, or less the fault; the order of the tests is the document's, as the first fault counts. */
    private int locate(int v, int how, boolean word) {
        if (word && !isAligned(v)) {
            return -UNALIGNED;
        }
        if (!isMapped(how)) {
            return within(v, how);
        }
        int match = firstMatch(how != HOW_CODE) + setOf(v);
        if (!isOfPage(specials[match], v)) {
            return how == HOW_CODE ? -CODE_UNMATCHED : -DATA_UNMATCHED;
        }
        int target = specials[match + MATCH_TO_PLACE];
        if ((target & neededRight(how)) == 0) {
            return how == HOW_CODE ? -CODE_RIGHT_MISSING : -DATA_RIGHT_MISSING;
        }
        return within((target & ~OFFSET_BITS) | (v & OFFSET_BITS), how);
    }

    /** The place itself if this use may reach it; a place from 2^31 on is negative here and so outside. */
    private static int within(int place, int how) {
        int low = how == HOW_STORE ? DATA_START : 0;
        int high = how == HOW_CODE ? DATA_START : BYTES;
        return place >= low && place < high ? place : -OUTSIDE;
    }

    private boolean isMapped(int how) {
        int bit = how == HOW_CODE ? CODE_MAPPED : DATA_MAPPED;
        return (specials[MODE] & bit) != 0;
    }

    /** The supervisor has rights of its own: the others' do not serve it. */
    private int neededRight(int how) {
        int right = how == HOW_STORE ? WRITE_RIGHT : READ_RIGHT;
        boolean supervisor = (specials[MODE] & SUPERVISOR) != 0;
        return supervisor ? right << TO_SUPERVISOR_RIGHT : right;
    }

    /** Bits 1 to 9 of a match have no meaning. */
    private static boolean isOfPage(int match, int v) {
        return isOdd(match) && match >>> PAGE_SHIFT == v >>> PAGE_SHIFT;
    }

    private int countMatches(boolean data) {
        int first = firstMatch(data);
        int count = 0;
        for (int s = 0; s < SETS; s++) {
            if (isOdd(specials[first + s])) {
                count++;
            }
        }
        return count;
    }

    private static int firstMatch(boolean data) {
        return data ? DATA_MATCH : CODE_MATCH;
    }

    private static int setOf(int v) {
        return (v >>> PAGE_SHIFT) & (SETS - 1);
    }

    private static boolean isOdd(int match) {
        return (match & 1) != 0;
    }

    private static boolean isAligned(int address) {
        return (address & 3) == 0;
    }

    private static boolean isSpecial(int k) {
        return k >= 0 && k < SPECIALS;
    }

    private static boolean isWordPlace(int place) {
        return place >= 0 && place < BYTES && isAligned(place);
    }

    /** Most objects touch few pages, so a page's row is made only when the page is first written. */
    private static final class Memory {
        private static final int PAGE_WORDS = 256;

        private final int[][] pages = new int[FRAMES][];

        int wordAt(int place) {
            if (place < 0 || place >= BYTES) {
                return 0;
            }
            int[] page = pages[place >>> PAGE_SHIFT];
            return page == null ? 0 : page[indexInPage(place)];
        }

        void putWord(int place, int word) {
            if (place < 0 || place >= BYTES) {
                return;
            }
            int[] page = pages[place >>> PAGE_SHIFT];
            if (page == null) {
                page = new int[PAGE_WORDS];
                pages[place >>> PAGE_SHIFT] = page;
            }
            page[indexInPage(place)] = word;
        }

        int byteAt(int place) {
            return (wordAt(place) >>> byteShift(place)) & 255;
        }

        void putByte(int place, int value) {
            int shift = byteShift(place);
            int others = wordAt(place) & ~(255 << shift);
            putWord(place, others | ((value & 255) << shift));
        }

        private static int indexInPage(int place) {
            return (place & OFFSET_BITS) >>> 2;
        }

        /** A word's highest byte comes first. */
        private static int byteShift(int place) {
            return (3 - (place & 3)) * 8;
        }
    }
}
