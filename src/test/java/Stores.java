/** Stores in states that several tests start from. */
final class Stores {
    /** The ends of int, which are outside of all that the document counts. */
    static final int LEAST = Integer.MIN_VALUE;
    static final int MOST = Integer.MAX_VALUE;

    private Stores() {
    }

    /** Session 0 is open in bucket 0, key 0. */
    static BlobStore withSession() {
        return withSessions(1);
    }

    /** Sessions 0 and up are open, each in the bucket and key of its number (session 4 in bucket 0). */
    static BlobStore withSessions(int count) {
        BlobStore x = new BlobStore();
        for (int i = 0; i < count; i++) {
            x.begin(i % 4, i);
        }
        return x;
    }

    /** Session 0 is open; `chunks` chunks of 8 bytes, 1000 and up, are in slots 0 and up, none in a part. */
    static BlobStore withChunks(int chunks) {
        BlobStore x = withSession();
        for (int i = 0; i < chunks; i++) {
            x.part(0, 1, 8, 1000 + i, 0, 0);
        }
        x.part(0, 1, 0, 0, 0, 0);
        return x;
    }

    /** As withChunks(), but of these chunks the ones with the numbers told have been freed again. */
    static BlobStore withGaps(int chunks, int... freed) {
        BlobStore x = withChunks(chunks);
        x.begin(0, 0);
        int held = 0;
        for (int i = 0; i < chunks; i++) {
            if (!contains(freed, i)) {
                x.part(1, 1 + held % 6, 8, 1000 + i, 0, 0);
                held++;
                if (held % 6 == 0) {
                    x.complete(1);
                    x.begin(0, 0);
                }
            }
        }
        x.collect();
        return x;
    }

    private static boolean contains(int[] numbers, int number) {
        for (int each : numbers) {
            if (each == number) {
                return true;
            }
        }
        return false;
    }

    /** Version 1 of bucket 0, key 0 has 8 bytes, the number a. */
    static BlobStore withVersion(long a) {
        BlobStore x = new BlobStore();
        version(x, 0, 0, a);
        return x;
    }

    static int version(BlobStore x, int bucket, int key, long a) {
        int session = x.begin(bucket, key);
        x.part(session, 1, 8, a, 0, 0);
        return x.complete(session);
    }

    /** Versions 1 to `count` have no bytes; they are of bucket 0, key 0 and so on through all of them. */
    static BlobStore withEmptyVersions(int count) {
        BlobStore x = new BlobStore();
        for (int i = 0; i < count; i++) {
            x.complete(x.begin(i / 8 % 4, i % 8));
        }
        return x;
    }

    /** The same store, whose power is gone. */
    static BlobStore down(BlobStore x) {
        x.cutAfter(0);
        try {
            int session = x.state(1) < 5 ? x.begin(0, 0) : x.complete(0);
            throw new AssertionError("the power stayed on for " + session);
        } catch (UnsupportedOperationException e) {
            return x;
        }
    }

    /** The same store, whose power goes at the next write. */
    static BlobStore cut(BlobStore x) {
        x.cutAfter(0);
        return x;
    }

    /** One version, one open session with a part, one chunk that nobody needs: every call has a write to do. */
    static BlobStore busy() {
        BlobStore x = withVersion(5);
        x.begin(1, 2);
        x.part(0, 1, 8, 6, 0, 0);
        x.part(0, 2, 8, 7, 0, 0);
        x.part(0, 2, 0, 0, 0, 0);
        return x;
    }
}
