/** Numbers just outside of what can be, and such as would be inside if only a part of their bits were looked at. */
final class Wrong {
    private static final int LEAST = Integer.MIN_VALUE;
    private static final int MOST = Integer.MAX_VALUE;
    private static final int AA = 256 * 'a' + 'a';

    static final int[] SIGNS = {
        LEAST, LEAST + 'a', -AA, -'a', 'a' - 256, -1, 0, 1, 32, 127, 128, 255, 256, 256 + 'a', AA, 65536 + 'a',
        (1 << 24) + 'a', MOST,
    };
    static final int[] PIECES = {
        LEAST, LEAST + 'a', LEAST + AA, -AA, -'a', 'a' - 256, AA - 65536, -1, 0, 1, 32, 127, 128, 255, 256, 256 + 'a',
        256 * 32 + 'a', 256 * 127 + 'a', 256 * 255 + 'a', 256 * 'a', 256 * 'a' + 32, 256 * 'a' + 127, 256 * 'a' + 255,
        65536 + 'a', 65536 + AA, 65536 * 'a' + AA, (1 << 24) + AA, MOST,
    };
    static final int[] COSTS = {LEAST, LEAST + 5, -256, -3, -2, 21, 22, 256, 261, MOST};
    static final int[] REGISTERS = {LEAST, LEAST + 1, -4, -1, 4, 5, 256, 65536, MOST};
    static final int[] OWNERS = {LEAST, LEAST + 1, -32, -1, 32, 33, 63, 64, 256, 65536, MOST};
    static final int[] BOUNDS = {LEAST, LEAST + 5, -200, -1, 201, 256, 261, MOST};

    private Wrong() {
    }
}
