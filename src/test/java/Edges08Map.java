/**
 * "MATCH of its SET is its page, and odd, PLACE is frame (0 .. 63) and rights (0 .. 15): the SET; NONE if frame or
 * rights are none."
 */
public final class Edges08Map {
    private static final int LOW = Integer.MIN_VALUE;
    private static final int HIGH = Integer.MAX_VALUE;

    public static void main(String[] args) {
        Checks c = new Checks();
        for (int i = 0; i < 2; i++) {
            boolean data = i == 1;
            everyFrameAndRight(c, data);
            lastTakenAndFirstRefused(c, data);
            farOnesAreRefused(c, data);
            refusedOnesChangeNothing(c, data);
            takenOnesChangeTheirTwo(c, data);
            whatWasThereIsGone(c, data);
        }
        c.end();
    }

    private static void everyFrameAndRight(Checks c, boolean data) {
        int place = data ? 29 : 13;
        for (int frame = -3; frame < 70; frame++) {
            SoftMaps x = new SoftMaps();
            for (int rights = -3; rights < 20; rights++) {
                boolean taken = frame >= 0 && frame <= 63 && rights >= 0 && rights <= 15;
                int before = x.special(place);
                String what = "map(5120, " + frame + ", " + rights + ", " + data + ")";
                c.due(what, x.map(5120, frame, rights, data), taken ? 5 : -1);
                c.due(what + ": PLACE", x.special(place), taken ? frame * 1024 + rights : before);
            }
        }
    }

    private static void lastTakenAndFirstRefused(Checks c, boolean data) {
        SoftMaps x = new SoftMaps();
        c.due("frame -1", x.map(0, -1, 5, data), -1);
        c.due("frame 0", x.map(0, 0, 5, data), 0);
        c.due("frame 63", x.map(0, 63, 5, data), 0);
        c.due("frame 64", x.map(0, 64, 5, data), -1);
        c.due("rights -1", x.map(0, 5, -1, data), -1);
        c.due("rights 0", x.map(0, 5, 0, data), 0);
        c.due("rights 15", x.map(0, 5, 15, data), 0);
        c.due("rights 16", x.map(0, 5, 16, data), -1);
        c.due("the last that was taken", x.special(data ? 24 : 8), 5 * 1024 + 15);
    }

    private static void farOnesAreRefused(Checks c, boolean data) {
        SoftMaps x = new SoftMaps();
        for (int bit = 6; bit < 32; bit++) {
            c.due("frame 2^" + bit, x.map(0, 1 << bit, 1, data), -1);
            c.due("rights 2^" + bit, x.map(0, 1, 1 << bit, data), -1);
            c.due("frame 2^" + bit + " + 1", x.map(0, (1 << bit) + 1, 1, data), -1);
            c.due("rights 2^" + bit + " + 1", x.map(0, 1, (1 << bit) + 1, data), -1);
        }
        c.due("the highest frame", x.map(0, HIGH, 1, data), -1);
        c.due("the highest rights", x.map(0, 1, HIGH, data), -1);
        c.allSpecialsAreZero("after far ones", x);
    }

    private static void refusedOnesChangeNothing(Checks c, boolean data) {
        for (int wrong : new int[] {-1, 64, LOW, HIGH}) {
            States.changesNothing(c, "frame " + wrong, States::busy, x -> x.map(1024, wrong, 5, data));
            States.changesNothing(c, "rights " + wrong, States::busy, x -> x.map(1024, 5, wrong, data));
            States.changesNothing(c, "both " + wrong, States::busy, x -> x.map(1024, wrong, wrong, data));
        }
        States.changesNothing(c, "rights 16", States::busy, x -> x.map(1024, 5, 16, data));
        States.changesNothing(c, "rights 16 at 0", States::busy, x -> x.map(0, 63, 16, data));
        States.changesNothing(c, "frame 64 at -1", States::busy, x -> x.map(-1, 64, 15, data));
    }

    private static void taken(Checks c, int v, int frame, int rights, boolean data, int set, int match) {
        int first = data ? 16 : 0;
        // In the busy state the SETS 0, 2, 4, 6 match.
        int matching = set % 2 == 0 ? 4 : 5;
        String what = "map(" + v + ", " + frame + ", " + rights + ", " + data + ")";
        SoftMaps y = new SoftMaps();
        c.due(what, y.map(v, frame, rights, data), set);
        States.changes(c, what, States::busy, x -> x.map(v, frame, rights, data),
            States.special(first + set), match,
            States.special(first + 8 + set), frame * 1024 + rights,
            States.look(data ? 7 : 6), matching);
    }

    private static void takenOnesChangeTheirTwo(Checks c, boolean data) {
        taken(c, 0, 0, 0, data, 0, 1);
        taken(c, 1023, 63, 15, data, 0, 1);
        taken(c, 1024, 63, 0, data, 1, 1025);
        taken(c, 8191, 0, 15, data, 7, 7169);
        taken(c, 8192, 31, 1, data, 0, 8193);
        taken(c, 65535, 32, 8, data, 7, 64513);
        taken(c, 65536, 1, 1, data, 0, 65537);
        taken(c, HIGH, 2, 2, data, 7, 0x7FFFFC01);
        taken(c, LOW, 3, 3, data, 0, 0x80000001);
        taken(c, -1, 4, 4, data, 7, 0xFFFFFC01);
        taken(c, -3073, 4, 4, data, 4, 0xFFFFF001);
    }

    private static void whatWasThereIsGone(Checks c, boolean data) {
        int first = data ? 16 : 0;
        SoftMaps x = new SoftMaps();
        x.set(first + 2, -1);
        x.set(first + 10, -1);
        c.due("over all bits", x.map(2048, 0, 0, data), 2);
        c.due("its MATCH", x.special(first + 2), 2049);
        c.due("its PLACE", x.special(first + 10), 0);
        c.due("another page of the SET", x.map(2048 + 8192, 9, 9, data), 2);
        c.due("its MATCH", x.special(first + 2), 10241);
        c.due("its PLACE", x.special(first + 10), 9225);
        x.set(32, 6);
        c.due("the page before it", x.find(2048, data ? 1 : 0, true), data ? -9 : -10);
        c.due("the page itself", x.find(10240, data ? 1 : 0, true), 9216);
    }
}
