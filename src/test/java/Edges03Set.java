/** "false if there is none such." */
public final class Edges03Set {
    public static void main(String[] args) {
        Checks c = new Checks();
        lastTakenAndFirstRefused(c);
        everySpecialAroundThem(c);
        farSpecials(c);
        takenOnesChangeTheirSpecialAlone(c);
        refusedOnesChangeNothing(c);
        c.end();
    }

    private static void lastTakenAndFirstRefused(Checks c) {
        SoftMaps x = new SoftMaps();
        c.due("set(-1)", x.set(-1, 3), false);
        c.due("set(0)", x.set(0, 3), true);
        c.due("set(31)", x.set(31, 3), true);
        c.due("set(32)", x.set(32, 3), true);
        c.due("set(33)", x.set(33, 3), false);
        c.due("special(0)", x.special(0), 3);
        c.due("special(1)", x.special(1), 0);
        c.due("special(30)", x.special(30), 0);
        c.due("special(31)", x.special(31), 3);
        c.due("special(32)", x.special(32), 3);
    }

    private static void everySpecialAroundThem(Checks c) {
        SoftMaps x = new SoftMaps();
        for (int k = -200; k < 300; k++) {
            c.due("set(" + k + ")", x.set(k, k), k >= 0 && k <= 32);
        }
    }

    private static void farSpecials(Checks c) {
        SoftMaps x = new SoftMaps();
        for (int bit = 6; bit < 32; bit++) {
            c.due("set(2^" + bit + ")", x.set(1 << bit, 1), false);
            c.due("set(2^" + bit + " + 32)", x.set((1 << bit) + 32, 1), false);
        }
        c.due("set(the highest int)", x.set(Integer.MAX_VALUE, 1), false);
        c.allSpecialsAreZero("after far ones", x);
    }

    private static void takenOnesChangeTheirSpecialAlone(Checks c) {
        for (int k = 8; k < 32; k++) {
            int special = k;
            if (k < 16 || k >= 24) {
                States.changes(c, "set(" + k + ", -5)", States::busy, x -> x.set(special, -5), States.special(k), -5);
            }
        }
        for (int s = 0; s < 8; s++) {
            int codeMatch = s;
            int dataMatch = 16 + s;
            // In the busy state the SETS 0, 2, 4, 6 match.
            int ifOdd = s % 2 == 0 ? 4 : 5;
            int ifEven = s % 2 == 0 ? 3 : 4;
            States.changes(c, "set(" + s + ", -1)", States::busy, x -> x.set(codeMatch, -1),
                States.special(codeMatch), -1, States.look(6), ifOdd);
            States.changes(c, "set(" + s + ", -2)", States::busy, x -> x.set(codeMatch, -2),
                States.special(codeMatch), -2, States.look(6), ifEven);
            States.changes(c, "set(" + dataMatch + ", 1)", States::busy, x -> x.set(dataMatch, 1),
                States.special(dataMatch), 1, States.look(7), ifOdd);
            States.changes(c, "set(" + dataMatch + ", 0)", States::busy, x -> x.set(dataMatch, 0),
                States.special(dataMatch), 0, States.look(7), ifEven);
        }
        States.changes(c, "set(32, 8)", States::busy, x -> x.set(32, 8), States.special(32), 0);
        States.changes(c, "set(32, -3)", States::busy, x -> x.set(32, -3), States.special(32), 5);
    }

    private static void refusedOnesChangeNothing(Checks c) {
        for (int k : new int[] {-1, -2, 33, 34, 64, 65, Integer.MIN_VALUE, Integer.MAX_VALUE}) {
            States.changesNothing(c, "set(" + k + ")", States::busy, x -> x.set(k, 5));
        }
    }
}
