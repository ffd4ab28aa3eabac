public final class Promise10Special {
    public static void main(String[] args) {
        Checks c = new Checks();
        SoftMaps x = new SoftMaps();
        for (int k = 0; k < 33; k++) {
            x.set(k, k == 32 ? 5 : 1000003 * (k + 1));
        }
        for (int k = 0; k < 33; k++) {
            c.due("special(" + k + ")", x.special(k), k == 32 ? 5 : 1000003 * (k + 1));
        }
        for (int k : new int[] {-1, -33, 33, 34, 65, Integer.MIN_VALUE, Integer.MAX_VALUE}) {
            c.due("special(" + k + ")", x.special(k), 0);
        }
        c.looks("after special", x, 0, 0, 0, 0, 0, 0);
        c.end();
    }
}
