/** The kinds of CHANGES, as promise 9 numbers them. */
final class Kind {
    static final int SKIP = 0;
    static final int BITS = 1;
    static final int USUAL = 2;
    static final int COARSE = 3;
    static final int LEFT = 4;
    static final int SHORT = 5;
    static final int OLD = 6;

    private Kind() {
    }
}
