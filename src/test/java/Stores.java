/** Stores in states that several tests start from. */
final class Stores {
    private Stores() {
    }

    /** Session 0 is open in bucket 0, key 0. */
    static BlobStore withSession() {
        BlobStore x = new BlobStore();
        x.begin(0, 0);
        return x;
    }

    /** Session 0 is open; `chunks` chunks of 8 bytes, 1000 and up, are in slots 0 and up, none in a part. */
    static BlobStore withChunks(int chunks) {
        BlobStore x = withSession();
        for (int i = 0; i < chunks; i++) {
            x.part(0, 1, 8, 1000 + i, 0, 0);
        }
        x.part(0, 1, 0, 0, 0, 0);
        return x;
    }

    /** Version 1 of bucket 0, key 0 has 8 bytes, the number a. */
    static BlobStore withVersion(long a) {
        BlobStore x = withSession();
        x.part(0, 1, 8, a, 0, 0);
        x.complete(0);
        return x;
    }

    static int version(BlobStore x, int bucket, int key, long a) {
        int session = x.begin(bucket, key);
        x.part(session, 1, 8, a, 0, 0);
        return x.complete(session);
    }

    static BlobStore down(BlobStore x) {
        x.cutAfter(0);
        try {
            int session = x.state(1) < 5 ? x.begin(0, 0) : x.complete(0);
            throw new AssertionError("the power stayed on for " + session);
        } catch (UnsupportedOperationException e) {
            return x;
        }
    }
}
