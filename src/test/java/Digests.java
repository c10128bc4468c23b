/** The digest once more, by the calls that the document lists. */
final class Digests {
    private Digests() {
    }

    /** The digest of counters with these characters in the buffer. */
    static long byCalls(PromisedCounters counters, String buffer) {
        long hash = 2713L;
        for (int what = 0; what <= 9; what++) {
            hash = hashed(hash, counters.count(what));
        }
        hash = hashed(hash, counters.setting(0), counters.setting(1));
        for (int c = 0; c <= 3; c++) {
            for (int what = 0; what <= 9; what++) {
                hash = hashed(hash, counters.counter(c, what));
            }
            hash = hashed(hash, counters.canBe(c, 5), counters.mostFor(0, c, true), counters.mostFor(0, c, false));
        }
        for (int p = 0; p < counters.count(1); p++) {
            for (int what = 0; what <= 5; what++) {
                hash = hashed(hash, counters.promiseOf(p, what));
            }
        }
        for (int o = 0; o <= 5; o++) {
            for (int what = 0; what <= 4; what++) {
                hash = hashed(hash, counters.owner(o, what));
            }
            hash = hashed(hash, counters.whyNot(o, 1, 7));
        }
        for (int what = 0; what <= 4; what++) {
            hash = hashed(hash, counters.ifPassed(5, what));
        }
        hash = hashed(hash, Double.doubleToLongBits(counters.heldShare()), buffer.length());
        return hashed(hash, buffer.chars().asLongStream().toArray());
    }

    static long hashed(long before, long... values) {
        long hash = before;
        for (long value : values) {
            hash = 31 * hash + value;
        }
        return hash;
    }
}
