/** Numbers at the edge of a range that the document names. */
public final class Bounds {
    private Bounds() {
    }

    /** The first ones that are refused on both sides, and the farthest. */
    public static int[] outside(int lowest, int greatest) {
        return new int[] {lowest - 1, greatest + 1, Integer.MIN_VALUE, Integer.MAX_VALUE};
    }
}
