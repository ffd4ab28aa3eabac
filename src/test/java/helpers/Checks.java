/** Compares answers with what is due, prints those that differ, and ends the test. */
final class Checks {
    private int wrong = 0;

    void due(String what, long got, long want) {
        if (got != want) {
            wrong++;
            System.out.println(what + " answered " + got + ", due is " + want);
        }
    }

    void due(String what, boolean got, boolean want) {
        due(what, got ? 1L : 0L, want ? 1L : 0L);
    }

    /** look(0) to look(5): what probes change, and nothing else does. */
    void looks(String when, SoftMaps x, int... want) {
        for (int which = 0; which < want.length; which++) {
            due(when + ": look(" + which + ")", x.look(which), want[which]);
        }
    }

    /** Two words at each end of every page: an object has only 512 calls, and these are 256. */
    void memoryIsZero(String when, SoftMaps x) {
        for (int page = 0; page < 64; page++) {
            for (int offset : new int[] {0, 4, 1016, 1020}) {
                int place = page * 1024 + offset;
                due(when + ": word(" + place + ")", x.word(place), 0);
            }
        }
    }

    void allSpecialsAreZero(String when, SoftMaps x) {
        for (int k = 0; k < 33; k++) {
            due(when + ": special(" + k + ")", x.special(k), 0);
        }
    }

    void end() {
        System.out.println(wrong == 0 ? "all answers are as due" : wrong + " answers are not as due");
        if (wrong != 0) {
            System.exit(1);
        }
    }
}
