/** The BOUNDS of the document: their names, what they can be, and what they are at first. */
final class Limits {
    static final String[] NAMES = {"half", "slot", "gone", "swap", "over", "back", "top"};
    static final int[] LEAST = {4, 1, 0, 0, 100, 50, 100};
    static final int[] MOST = {200, 50, 2000, 2000, 9999, 9999, 20000};
    static final int[] AT_FIRST = {60, 10, 1000, 500, 2000, 750, 8000};

    private Limits() {
    }
}
