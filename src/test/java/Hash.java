/** The document's hash of a row of longs, by division, so that it is not written as the class's. */
final class Hash {
    private Hash() {
    }

    static long of(long... words) {
        long h = -3750763034362895579L;
        for (long word : words) {
            long left = word;
            for (int i = 0; i < 8; i++) {
                h = (h ^ Math.floorMod(left, 256L)) * 1099511628211L;
                left = Math.floorDiv(left, 256L);
            }
        }
        return h;
    }

    /** The long of a queue: the sum of (1 + element) * 32^place. */
    static long queue(int... elements) {
        long sum = 0;
        for (int place = elements.length - 1; place >= 0; place--) {
            sum = sum * 32 + 1 + elements[place];
        }
        return sum;
    }
}
