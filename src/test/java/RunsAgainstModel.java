import java.util.Random;

/**
 * Long runs of calls, the same each time, against a model that follows the document's words with
 * long addresses, bytes and division, so that it shares no arithmetic with the class.
 */
public final class RunsAgainstModel {
    private static final int RUNS = 2000;
    // A step makes up to two calls, and the look at the state 45 + WORDS: 512 in all at most.
    private static final int STEPS = 180;
    private static final int WORDS = 100;

    private static final int[] EDGES = {0, 1, 2, 3, 4, 7, 8, 9, 15, 16, 31, 32, 33, 63, 64, 1020, 1023, 1024, 1025,
        8192, 31744, 32764, 32767, 32768, 32772, 65528, 65532, 65535, 65536, 65540, -1, -2, -4, -8, -1023, -1024,
        -65536, Integer.MIN_VALUE, Integer.MIN_VALUE + 1, Integer.MAX_VALUE, Integer.MAX_VALUE - 3};

    public static void main(String[] args) {
        Checks c = new Checks();
        for (int run = 0; run < RUNS; run++) {
            Random random = new Random(run);
            SoftMaps x = new SoftMaps();
            Model m = new Model();
            for (int step = 0; step < STEPS; step++) {
                oneStep(c, "run " + run + ", step " + step, random, x, m);
            }
            sameState(c, "run " + run, random, x, m);
        }
        c.end();
    }

    private static int address(Random r) {
        int kind = r.nextInt(10);
        if (kind == 0) {
            return r.nextInt();
        }
        if (kind == 1) {
            return EDGES[r.nextInt(EDGES.length)];
        }
        int page = kind < 6 ? r.nextInt(20) : kind < 8 ? r.nextInt(66) : -1 - r.nextInt(9);
        int offset = r.nextInt(4) == 0 ? r.nextInt(1024) : 4 * r.nextInt(5);
        return page * 1024 + offset;
    }

    private static int small(Random r, int end) {
        return r.nextInt(12) == 0 ? EDGES[r.nextInt(EDGES.length)] : r.nextInt(end);
    }

    private static int value(Random r) {
        return r.nextInt(4) == 0 ? EDGES[r.nextInt(EDGES.length)] : r.nextInt();
    }

    private static int specialValue(Random r) {
        return r.nextInt(3) == 0 ? value(r) : (r.nextInt(70) - 3) * 1024 + r.nextInt(32);
    }

    private static void oneStep(Checks c, String at, Random r, SoftMaps x, Model m) {
        boolean flag = r.nextBoolean();
        int v = address(r);
        int a;
        int b;
        switch (r.nextInt(14)) {
            case 0: a = value(r); c.due(at + " poke", x.poke(v, a), m.poke(v, a)); break;
            case 1: a = small(r, 33); b = specialValue(r); c.due(at + " set", x.set(a, b), m.set(a, b)); break;
            case 2: a = r.nextInt(8); c.due(at + " mode", x.set(32, a), m.set(32, a)); break;
            case 3: case 4: c.due(at + " code " + v, x.code(v), m.code(v)); break;
            case 5: case 6: c.due(at + " load " + v, x.load(v, flag), m.load(v, flag)); break;
            case 7: case 8: a = value(r); c.due(at + " store " + v, x.store(v, a, flag), m.store(v, a, flag)); break;
            case 9: a = small(r, 3); c.due(at + " find " + v, x.find(v, a, flag), m.find(v, a, flag)); break;
            case 10: case 11:
                a = small(r, 64);
                b = small(r, 16);
                c.due(at + " map " + v, x.map(v, a, b, flag), m.map(v, a, b, flag));
                break;
            case 12:
                if (r.nextInt(8) == 0) {
                    c.due(at + " forget", x.forget(flag), m.forget(flag));
                } else {
                    c.due(at + " word " + v, x.word(v), m.word(v));
                }
                break;
            default:
                a = small(r, 8);
                c.due(at + " look " + a, x.look(a), m.look(a));
                b = small(r, 33);
                c.due(at + " special " + b, x.special(b), m.special(b));
                break;
        }
    }

    private static void sameState(Checks c, String at, Random r, SoftMaps x, Model m) {
        for (int which = -1; which < 9; which++) {
            c.due(at + " look " + which, x.look(which), m.look(which));
        }
        for (int k = -1; k < 34; k++) {
            c.due(at + " special " + k, x.special(k), m.special(k));
        }
        // From a random start, the words that are not 0 in the model.
        int start = 4 * r.nextInt(16384);
        int left = WORDS;
        for (int i = 0; i < 65536 && left > 0; i += 4) {
            int place = (start + i) % 65536;
            if (m.word(place) != 0) {
                left--;
                c.due(at + " word " + place, x.word(place), m.word(place));
            }
        }
    }

    /** A place is 0 or more, a fault less than 0. */
    private static final class Model {
        final int[] memory = new int[65536];
        final long[] specials = new long[33];
        final int[] good = new int[3];
        int faults;
        int latest;
        long faultAddress;

        boolean poke(int place, int word) {
            if (place < 0 || place > 65532 || place % 4 != 0) {
                return false;
            }
            writeWord(place, word);
            return true;
        }

        boolean set(int k, int value) {
            if (k < 0 || k > 32) {
                return false;
            }
            long word = Integer.toUnsignedLong(value);
            specials[k] = k == 32 ? word % 8 : word;
            return true;
        }

        int code(int v) {
            int place = probe(v, 0, true);
            return place < 0 ? 0 : readWord(place);
        }

        int load(int v, boolean word) {
            int place = probe(v, 1, word);
            return place < 0 ? 0 : word ? readWord(place) : memory[place];
        }

        int store(int v, int value, boolean word) {
            int place = probe(v, 2, word);
            if (place < 0) {
                return -1;
            }
            if (word) {
                writeWord(place, value);
            } else {
                memory[place] = (int) (Integer.toUnsignedLong(value) % 256);
            }
            return place;
        }

        int find(int v, int how, boolean word) {
            return how < 0 || how > 2 ? 0 : place(Integer.toUnsignedLong(v), how, how == 0 || word);
        }

        int map(int v, int frame, int rights, boolean data) {
            if (frame < 0 || frame > 63 || rights < 0 || rights > 15) {
                return -1;
            }
            long page = Integer.toUnsignedLong(v) / 1024;
            int set = (int) (page % 8);
            specials[(data ? 16 : 0) + set] = page * 1024 + 1;
            specials[(data ? 24 : 8) + set] = frame * 1024L + rights;
            return set;
        }

        int forget(boolean data) {
            int count = 0;
            for (int s = data ? 16 : 0; s < (data ? 24 : 8); s++) {
                if (specials[s] % 2 == 1) {
                    specials[s]--;
                    count++;
                }
            }
            return count;
        }

        int special(int k) {
            return k < 0 || k > 32 ? 0 : (int) specials[k];
        }

        int word(int place) {
            return place < 0 || place > 65532 || place % 4 != 0 ? 0 : readWord(place);
        }

        int look(int which) {
            int[] answers = {faults, latest, (int) faultAddress, good[0], good[1], good[2], odd(0), odd(16)};
            return which < 0 || which > 7 ? -1 : answers[which];
        }

        int odd(int first) {
            int count = 0;
            for (int s = 0; s < 8; s++) {
                count += (int) (specials[first + s] % 2);
            }
            return count;
        }

        int probe(int v, int how, boolean word) {
            int place = place(Integer.toUnsignedLong(v), how, word);
            if (place < 0) {
                faults++;
                latest = -place;
                faultAddress = v;
            } else {
                good[how]++;
            }
            return place;
        }

        boolean bit(long word, long value) {
            return word / value % 2 == 1;
        }

        int place(long v, int how, boolean word) {
            if (word && v % 4 != 0) {
                return -6;
            }
            long place = v;
            if (bit(specials[32], how == 0 ? 2 : 4)) {
                int set = (int) (v / 1024 % 8);
                long match = specials[(how == 0 ? 0 : 16) + set];
                long target = specials[(how == 0 ? 8 : 24) + set];
                if (!bit(match, 1) || match / 1024 != v / 1024) {
                    return how == 0 ? -10 : -9;
                }
                long[] user = {1, 1, 2};
                long[] supervisor = {4, 4, 8};
                if (!bit(target, bit(specials[32], 1) ? supervisor[how] : user[how])) {
                    return how == 0 ? -4 : -3;
                }
                place = target / 1024 * 1024 + v % 1024;
            }
            if (how == 0 && place >= 32768 || place >= 65536 || how == 2 && place < 32768) {
                return -2;
            }
            return (int) place;
        }

        int readWord(int place) {
            return ((memory[place] * 256 + memory[place + 1]) * 256 + memory[place + 2]) * 256 + memory[place + 3];
        }

        void writeWord(int place, int word) {
            long rest = Integer.toUnsignedLong(word);
            for (int i = 3; i >= 0; i--) {
                memory[place + i] = (int) (rest % 256);
                rest /= 256;
            }
        }
    }
}
