/** "What answers false changes nothing." */
public final class TermsRefused {
    private static final int[] NO_PLACES = {-1, -2, -3, -4, 1, 2, 3, 5, 32763, 32765, 32767, 32769, 65529, 65531, 65533,
        65534, 65535, 65536, 65537, 65540, 131072, Integer.MIN_VALUE, Integer.MIN_VALUE + 4, Integer.MAX_VALUE,
        Integer.MAX_VALUE - 3};
    private static final int[] NO_SPECIALS = {-1, -2, -8, -32, -33, 33, 34, 40, 64, 65, 256, 288, 65536,
        Integer.MIN_VALUE, Integer.MIN_VALUE + 1, Integer.MIN_VALUE + 32, Integer.MAX_VALUE};

    public static void main(String[] args) {
        Checks c = new Checks();
        for (int place : NO_PLACES) {
            SoftMaps x = new SoftMaps();
            c.due("poke(" + place + ")", x.poke(place, 77), false);
            States.changesNothing(c, "poke(" + place + ")", States::busy, y -> y.poke(place, 77));
            States.changesNothing(c, "poke(" + place + ") on a new object", y -> { }, y -> y.poke(place, 77));
        }
        for (int k : NO_SPECIALS) {
            SoftMaps x = new SoftMaps();
            c.due("set(" + k + ")", x.set(k, 77), false);
            States.changesNothing(c, "set(" + k + ")", States::busy, y -> y.set(k, 77));
            States.changesNothing(c, "set(" + k + ") on a new object", y -> { }, y -> y.set(k, 77));
        }
        c.end();
    }
}
