/**
 * "A PROBE (code, loads, stores) that has a FAULT sets FAULT ADDRESS to v, FAULTS is 1 more; one that has none
 * changes nothing of these."
 */
public final class TermsProbe {
    public static void main(String[] args) {
        Checks c = new Checks();
        faultsChangeTheirThree(c);
        probesWithoutFaultLeaveThem(c);
        everyFaultCounts(c);
        sameFaultAgain(c);
        faultAtZero(c);
        whatIsNoProbe(c);
        c.end();
    }

    private static void unmapped(SoftMaps x) {
        States.busy(x);
        x.set(32, 0);
    }

    private static void user(SoftMaps x) {
        States.busy(x);
        x.set(32, 6);
        x.map(1024, 20, 0, false);
        x.map(1024, 40, 0, true);
        x.map(2048, 32, 1, false);
        x.map(2048, 31, 2, true);
    }

    private static void fault(Checks c, States.Calls before, String what, States.Calls probe, int fault, int v) {
        States.changes(c, what, before, probe,
            States.look(0), 2, States.look(1), fault, States.look(2), v);
    }

    private static void faultsChangeTheirThree(Checks c) {
        fault(c, TermsProbe::unmapped, "code(3)", x -> x.code(3), 6, 3);
        fault(c, TermsProbe::unmapped, "code(32768)", x -> x.code(32768), 2, 32768);
        fault(c, TermsProbe::user, "code(0)", x -> x.code(0), 10, 0);
        fault(c, TermsProbe::user, "code(1024)", x -> x.code(1024), 4, 1024);
        fault(c, TermsProbe::user, "code(2048)", x -> x.code(2048), 2, 2048);
        fault(c, TermsProbe::unmapped, "load(3, true)", x -> x.load(3, true), 6, 3);
        fault(c, TermsProbe::unmapped, "load(65536, false)", x -> x.load(65536, false), 2, 65536);
        fault(c, TermsProbe::user, "load(0, false)", x -> x.load(0, false), 9, 0);
        fault(c, TermsProbe::user, "load(1025, false)", x -> x.load(1025, false), 3, 1025);
        fault(c, TermsProbe::user, "load(2048, true)", x -> x.load(2048, true), 3, 2048);
        fault(c, TermsProbe::unmapped, "store(-1, 5, true)", x -> x.store(-1, 5, true), 6, -1);
        fault(c, TermsProbe::unmapped, "store(32767, 5, false)", x -> x.store(32767, 5, false), 2, 32767);
        fault(c, TermsProbe::user, "store(-1, 5, false)", x -> x.store(-1, 5, false), 9, -1);
        fault(c, TermsProbe::user, "store(1024, 5, true)", x -> x.store(1024, 5, true), 3, 1024);
        fault(c, TermsProbe::user, "store(2051, 5, false)", x -> x.store(2051, 5, false), 2, 2051);
    }

    private static void probesWithoutFaultLeaveThem(Checks c) {
        States.changes(c, "code(4)", TermsProbe::unmapped, x -> x.code(4), States.look(3), 2);
        States.changes(c, "load(4, true)", TermsProbe::unmapped, x -> x.load(4, true), States.look(4), 3);
        States.changes(c, "load(65535, false)", TermsProbe::unmapped, x -> x.load(65535, false), States.look(4), 3);
        States.changes(c, "store(32768, 5, true)", TermsProbe::unmapped, x -> x.store(32768, 5, true),
            States.look(5), 4, States.word(32768), 5);
        States.changes(c, "store(65535, 5, false)", TermsProbe::unmapped, x -> x.store(65535, 5, false),
            States.look(5), 4, States.word(65532), 0xA1B2C305);
        States.Calls mapped = x -> {
            States.busy(x);
            x.map(1024, 31, 4, false);
            x.map(1024, 63, 12, true);
        };
        States.changes(c, "code by a map", mapped, x -> x.code(2044), States.look(3), 2);
        States.changes(c, "load by a map", mapped, x -> x.load(2047, false), States.look(4), 3);
        States.changes(c, "store by a map", mapped, x -> x.store(2044, 5, true),
            States.look(5), 4, States.word(65532), 5);
    }

    private static void everyFaultCounts(Checks c) {
        SoftMaps x = new SoftMaps();
        for (int i = 0; i < 167; i++) {
            int code = -4 * i - 4;
            x.code(code);
            x.load(65536 + i, false);
            x.store(i, 1, false);
        }
        c.due("FAULTS", x.look(0), 501);
        c.looks("501 faults", x, 501, 2, 166, 0, 0, 0);
    }

    private static void sameFaultAgain(Checks c) {
        SoftMaps x = new SoftMaps();
        for (int i = 1; i < 10; i++) {
            x.load(7, true);
            c.looks("the same fault again", x, i, 6, 7, 0, 0, 0);
        }
    }

    private static void faultAtZero(Checks c) {
        SoftMaps x = new SoftMaps();
        x.load(7, true);
        x.store(0, 1, true);
        c.looks("a fault at 0", x, 2, 2, 0, 0, 0, 0);
        x.load(0, true);
        c.looks("none at 0", x, 2, 2, 0, 0, 1, 0);
    }

    private static void whatIsNoProbe(Checks c) {
        States.changesNothing(c, "what reads and is no PROBE", States::busy, x -> {
            for (int how = -1; how < 4; how++) {
                x.find(3, how, true);
                x.find(65536, how, false);
                x.find(0, how, true);
            }
            x.word(3);
            x.word(65536);
            x.special(33);
            x.look(8);
        });
    }
}
