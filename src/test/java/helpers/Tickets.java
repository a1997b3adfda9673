/** Tickets as the document's Terms tell them. */
public final class Tickets {
    private Tickets() {
    }

    public static int of(int number) {
        return 100 * number + (37 * number + 11) % 97;
    }
}
