/** "MEMORY and SPECIALS are 0, no FAULTS." */
public final class Edges01NewObject {
    public static void main(String[] args) {
        Checks c = new Checks();
        allIsZero(c, "new");
        busyObjects();
        allIsZero(c, "new, after others were used");
        notMappedAtFirst(c);
        c.end();
    }

    private static void allIsZero(Checks c, String when) {
        int[] state = States.after(x -> { });
        for (int part = 0; part < state.length; part++) {
            c.due(when + ": part " + part + " of the state", state[part], 0);
        }
    }

    private static void busyObjects() {
        for (int i = 0; i < 3; i++) {
            States.busy(new SoftMaps());
        }
    }

    private static void notMappedAtFirst(Checks c) {
        SoftMaps x = new SoftMaps();
        c.due("code", x.find(4, 0, true), 4);
        c.due("LOAD", x.find(5, 1, false), 5);
        c.due("STORE", x.find(32769, 2, false), 32769);
        c.due("no page of code is matched", x.forget(false), 0);
        c.due("no page of data is matched", x.forget(true), 0);
        x.set(32, 6);
        c.due("code by the maps of a new object", x.find(0, 0, true), -10);
        c.due("data by the maps of a new object", x.find(0, 1, true), -9);
    }
}
