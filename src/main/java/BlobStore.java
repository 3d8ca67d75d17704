import java.util.Arrays;
import java.util.NoSuchElementException;

/**
 * A store of blobs: parts are uploaded into sessions and kept as chunks by their SHA-256, sessions
 * become versions, what nobody needs is collected, and the power may go at any write.
 */
public final class BlobStore {
    private static final int BUCKETS = 4;
    private static final int KEYS = 8;
    private static final int SLOTS = 48;
    private static final int SESSIONS = 5;
    private static final int PARTS = 6;
    private static final int VERSIONS = 40;
    private static final int CHUNK_BYTES = 8;
    private static final int PART_CHUNKS = 3;
    private static final int PART_BYTES = PART_CHUNKS * CHUNK_BYTES;
    private static final int ADDRESS_WORDS = 8;
    private static final int MOST_WRITES_TO_CUT = 1000;

    private final Power power = new Power();
    private final Sha256 sha256 = new Sha256();
    private final Chunk[] slots = new Chunk[SLOTS];
    private final Session[] sessions = new Session[SESSIONS];
    private final Version[] versions = new Version[VERSIONS];
    private int versionsEver = 0;

    // Rows that calls fill anew each time: all calls share one room, so no call makes rows of its own.
    private final Chunk[] incoming = new Chunk[PART_CHUNKS];
    private final Row incomingSlots = new Row(PART_CHUNKS);
    private final Chunk wanted = new Chunk();
    private final int[] needs = new int[SLOTS];

    public BlobStore() {
        for (int i = 0; i < SLOTS; i++) {
            slots[i] = new Chunk();
        }
        for (int i = 0; i < SESSIONS; i++) {
            sessions[i] = new Session();
        }
        for (int i = 0; i < VERSIONS; i++) {
            versions[i] = new Version();
        }
        for (int i = 0; i < PART_CHUNKS; i++) {
            incoming[i] = new Chunk();
        }
    }

    public int begin(int bucket, int key)
            throws IllegalStateException, IllegalArgumentException, UnsupportedOperationException {
        power.requireOn();
        int session = leastClosedSession();
        if (session < 0) {
            throw new IllegalStateException("all sessions are open");
        }
        if (bucket < 0 || bucket >= BUCKETS || key < 0 || key >= KEYS) {
            throw new IllegalArgumentException("no such bucket or key");
        }
        power.spendWrite();
        sessions[session].start(bucket, key);
        return session;
    }

    public int part(int session, int number, int n, long a, long b, long c)
            throws IllegalStateException, IllegalArgumentException, IndexOutOfBoundsException,
            UnsupportedOperationException {
        power.requireOn();
        Session target = openSession(session);
        if (number < 1 || number > PARTS || n < 0 || n > PART_BYTES) {
            throw new IllegalArgumentException("no such part number or count of bytes");
        }
        int count = cutIntoChunks(n, a, b, c);
        planSlots(count);
        int came = writeChunks(count);
        power.spendWrite();
        target.parts[number - 1].copyFrom(incomingSlots);
        return came;
    }

    public int complete(int session)
            throws IllegalStateException, IllegalArgumentException, UnsupportedOperationException {
        power.requireOn();
        if (versionsEver >= VERSIONS) {
            throw new IllegalStateException("all versions have been given");
        }
        Session source = openSession(session);
        power.spendWrite();
        versions[versionsEver].comeFrom(source);
        versionsEver++;
        source.open = false;
        return versionsEver;
    }

    public void abort(int session)
            throws IllegalStateException, IllegalArgumentException, UnsupportedOperationException {
        power.requireOn();
        Session target = openSession(session);
        power.spendWrite();
        target.open = false;
    }

    public boolean delete(int version) throws IllegalStateException, UnsupportedOperationException {
        power.requireOn();
        Version target = livingVersion(version);
        if (target == null) {
            return false;
        }
        power.spendWrite();
        target.lives = false;
        return true;
    }

    public int collect() throws IllegalStateException, UnsupportedOperationException {
        power.requireOn();
        countNeeds();
        int freed = 0;
        for (int slot = 0; slot < SLOTS; slot++) {
            if (!slots[slot].isFree() && needs[slot] == 0) {
                power.spendWrite();
                slots[slot].free();
                freed++;
            }
        }
        return freed;
    }

    public void cutAfter(int n) throws IllegalArgumentException {
        if (n < 0 || n > MOST_WRITES_TO_CUT) {
            throw new IllegalArgumentException("no such count of writes");
        }
        power.tellCut(n);
    }

    public boolean recover() {
        return power.turnOn();
    }

    public int latest(int bucket, int key) {
        for (int number = versionsEver; number >= 1; number--) {
            Version version = versions[number - 1];
            if (version.lives && version.bucket == bucket && version.key == key) {
                return number;
            }
        }
        return 0;
    }

    public int size(int version) {
        Version told = livingVersion(version);
        if (told == null) {
            return -1;
        }
        int bytes = 0;
        for (int i = 0; i < told.row.length; i++) {
            bytes += slots[told.row.slots[i]].length;
        }
        return bytes;
    }

    public int byteAt(int version, int i) {
        Version told = livingVersion(version);
        if (told == null || i < 0) {
            return -1;
        }
        int behind = i;
        for (int k = 0; k < told.row.length; k++) {
            Chunk chunk = slots[told.row.slots[k]];
            if (behind < chunk.length) {
                return chunk.byteOf(behind);
            }
            behind -= chunk.length;
        }
        return -1;
    }

    public int address(int slot, int w) throws NoSuchElementException {
        if (!hasChunk(slot) || w < 0 || w >= ADDRESS_WORDS) {
            throw new NoSuchElementException("no such chunk or word");
        }
        return slots[slot].address[w];
    }

    public int needed(int slot) {
        if (!hasChunk(slot)) {
            return -1;
        }
        countNeeds();
        return needs[slot];
    }

    public int slotOf(int n, long a) {
        if (n < 1 || n > CHUNK_BYTES) {
            return -1;
        }
        wanted.fill(n, a, sha256);
        return slotWith(wanted);
    }

    public int state(int what) {
        switch (what) {
            case 0:
                return countChunks();
            case 1:
                return countOpenSessions();
            case 2:
                return countLivingVersions();
            case 3:
                return versionsEver;
            case 4:
                return power.writes;
            case 5:
                return power.gone ? 1 : 0;
            case 6:
                return versionsEver == 0 ? -1 : versions[versionsEver - 1].bucket;
            case 7:
                return versionsEver == 0 ? -1 : versions[versionsEver - 1].key;
            default:
                return -1;
        }
    }

    private int leastClosedSession() {
        for (int session = 0; session < SESSIONS; session++) {
            if (!sessions[session].open) {
                return session;
            }
        }
        return -1;
    }

    private Session openSession(int session) {
        if (session < 0 || session >= SESSIONS || !sessions[session].open) {
            throw new IllegalArgumentException("no such session is open");
        }
        return sessions[session];
    }

    private Version livingVersion(int version) {
        if (version < 1 || version > versionsEver || !versions[version - 1].lives) {
            return null;
        }
        return versions[version - 1];
    }

    private boolean hasChunk(int slot) {
        return slot >= 0 && slot < SLOTS && !slots[slot].isFree();
    }

    private int slotWith(Chunk chunk) {
        for (int slot = 0; slot < SLOTS; slot++) {
            if (!slots[slot].isFree() && slots[slot].isLike(chunk)) {
                return slot;
            }
        }
        return -1;
    }

    private int leastFreeSlot(int from) {
        for (int slot = from; slot < SLOTS; slot++) {
            if (slots[slot].isFree()) {
                return slot;
            }
        }
        return -1;
    }

    private int cutIntoChunks(int n, long a, long b, long c) {
        int count = (n + CHUNK_BYTES - 1) / CHUNK_BYTES;
        for (int i = 0; i < count; i++) {
            long bytes = i == 0 ? a : i == 1 ? b : c;
            incoming[i].fill(Math.min(CHUNK_BYTES, n - i * CHUNK_BYTES), bytes, sha256);
        }
        return count;
    }

    /** Finds a slot for every incoming chunk before the first write, as too few slots must do nothing. */
    private void planSlots(int count) {
        int from = 0;
        incomingSlots.length = 0;
        for (int i = 0; i < count; i++) {
            int slot = plannedSlot(i);
            if (slot < 0) {
                slot = leastFreeSlot(from);
                if (slot < 0) {
                    throw new IndexOutOfBoundsException("too few free slots");
                }
                from = slot + 1;
            }
            incomingSlots.add(slot);
        }
    }

    /** The slot that has an incoming chunk or will have it for an earlier one that is alike, or -1. */
    private int plannedSlot(int i) {
        for (int earlier = 0; earlier < i; earlier++) {
            if (incoming[earlier].isLike(incoming[i])) {
                return incomingSlots.slots[earlier];
            }
        }
        return slotWith(incoming[i]);
    }

    private int writeChunks(int count) {
        int came = 0;
        for (int i = 0; i < count; i++) {
            Chunk place = slots[incomingSlots.slots[i]];
            if (place.isFree()) {
                power.spendWrite();
                place.copyFrom(incoming[i]);
                came++;
            }
        }
        return came;
    }

    private void countNeeds() {
        Arrays.fill(needs, 0);
        for (int i = 0; i < SESSIONS; i++) {
            if (sessions[i].open) {
                sessions[i].countInto(needs);
            }
        }
        for (int i = 0; i < versionsEver; i++) {
            if (versions[i].lives) {
                versions[i].row.countInto(needs);
            }
        }
    }

    private int countChunks() {
        int count = 0;
        for (int i = 0; i < SLOTS; i++) {
            count += slots[i].isFree() ? 0 : 1;
        }
        return count;
    }

    private int countOpenSessions() {
        int count = 0;
        for (int i = 0; i < SESSIONS; i++) {
            count += sessions[i].open ? 1 : 0;
        }
        return count;
    }

    private int countLivingVersions() {
        int count = 0;
        for (int i = 0; i < versionsEver; i++) {
            count += versions[i].lives ? 1 : 0;
        }
        return count;
    }

    /** Whether the power is on, when it goes, and how many writes it has carried. */
    private static final class Power {
        private static final int NO_CUT = -1;

        private int writes = 0;
        private int writesToCut = NO_CUT;
        private boolean gone = false;

        private void requireOn() {
            if (gone) {
                throw new IllegalStateException("the store is down");
            }
        }

        /** Stands right before each write, so that a write is done wholly or not at all. */
        private void spendWrite() {
            if (writesToCut == 0) {
                gone = true;
                throw new UnsupportedOperationException("the power is gone");
            }
            if (writesToCut > 0) {
                writesToCut--;
            }
            writes++;
        }

        private void tellCut(int n) {
            writesToCut = n;
        }

        private boolean turnOn() {
            if (!gone) {
                return false;
            }
            gone = false;
            writesToCut = NO_CUT;
            return true;
        }
    }

    /** The bytes of a chunk with their address; a slot without a chunk holds one of length 0. */
    private static final class Chunk {
        private int length = 0;
        private long bytes = 0;
        private final int[] address = new int[ADDRESS_WORDS];

        private boolean isFree() {
            return length == 0;
        }

        private void free() {
            length = 0;
        }

        private void fill(int n, long source, Sha256 sha256) {
            length = n;
            bytes = source & (-1L << (64 - 8 * n));
            sha256.digest(n, bytes, address);
        }

        private void copyFrom(Chunk other) {
            length = other.length;
            bytes = other.bytes;
            System.arraycopy(other.address, 0, address, 0, ADDRESS_WORDS);
        }

        private boolean isLike(Chunk other) {
            for (int w = 0; w < ADDRESS_WORDS; w++) {
                if (address[w] != other.address[w]) {
                    return false;
                }
            }
            return true;
        }

        private int byteOf(int i) {
            return (int) (bytes >>> (56 - 8 * i)) & 255;
        }
    }

    /** A row of slots, of a part or of a version. */
    private static final class Row {
        private final int[] slots;
        private int length = 0;

        private Row(int most) {
            slots = new int[most];
        }

        private void add(int slot) {
            if (length < slots.length) {
                slots[length] = slot;
                length++;
            }
        }

        private void addAll(Row other) {
            for (int i = 0; i < other.length; i++) {
                add(other.slots[i]);
            }
        }

        private void copyFrom(Row other) {
            length = 0;
            addAll(other);
        }

        private void countInto(int[] counts) {
            for (int i = 0; i < length; i++) {
                counts[slots[i]]++;
            }
        }
    }

    /** A session; a part that has not come is an empty row, as no call tells it from a part of no bytes. */
    private static final class Session {
        private boolean open = false;
        private int bucket = 0;
        private int key = 0;
        private final Row[] parts = new Row[PARTS];

        private Session() {
            for (int i = 0; i < PARTS; i++) {
                parts[i] = new Row(PART_CHUNKS);
            }
        }

        private void start(int itsBucket, int itsKey) {
            open = true;
            bucket = itsBucket;
            key = itsKey;
            for (int i = 0; i < PARTS; i++) {
                parts[i].length = 0;
            }
        }

        private void countInto(int[] counts) {
            for (int i = 0; i < PARTS; i++) {
                parts[i].countInto(counts);
            }
        }
    }

    private static final class Version {
        private boolean lives = false;
        private int bucket = 0;
        private int key = 0;
        private final Row row = new Row(PARTS * PART_CHUNKS);

        private void comeFrom(Session session) {
            lives = true;
            bucket = session.bucket;
            key = session.key;
            for (int i = 0; i < PARTS; i++) {
                row.addAll(session.parts[i]);
            }
        }
    }

    /** SHA-256 (FIPS 180-4) of 1 to 8 bytes, which with their padding are always one block. */
    private static final class Sha256 {
        private static final int[] FIRST_HASH = {
            0x6a09e667, 0xbb67ae85, 0x3c6ef372, 0xa54ff53a, 0x510e527f, 0x9b05688c, 0x1f83d9ab, 0x5be0cd19
        };
        private static final int[] ROUND_WORDS = {
            0x428a2f98, 0x71374491, 0xb5c0fbcf, 0xe9b5dba5, 0x3956c25b, 0x59f111f1, 0x923f82a4, 0xab1c5ed5,
            0xd807aa98, 0x12835b01, 0x243185be, 0x550c7dc3, 0x72be5d74, 0x80deb1fe, 0x9bdc06a7, 0xc19bf174,
            0xe49b69c1, 0xefbe4786, 0x0fc19dc6, 0x240ca1cc, 0x2de92c6f, 0x4a7484aa, 0x5cb0a9dc, 0x76f988da,
            0x983e5152, 0xa831c66d, 0xb00327c8, 0xbf597fc7, 0xc6e00bf3, 0xd5a79147, 0x06ca6351, 0x14292967,
            0x27b70a85, 0x2e1b2138, 0x4d2c6dfc, 0x53380d13, 0x650a7354, 0x766a0abb, 0x81c2c92e, 0x92722c85,
            0xa2bfe8a1, 0xa81a664b, 0xc24b8b70, 0xc76c51a3, 0xd192e819, 0xd6990624, 0xf40e3585, 0x106aa070,
            0x19a4c116, 0x1e376c08, 0x2748774c, 0x34b0bcb5, 0x391c0cb3, 0x4ed8aa4a, 0x5b9cca4f, 0x682e6ff3,
            0x748f82ee, 0x78a5636f, 0x84c87814, 0x8cc70208, 0x90befffa, 0xa4506ceb, 0xbef9a3f7, 0xc67178f2
        };
        private static final int BLOCK_WORDS = 16;
        private static final int ROUNDS = 64;

        private final int[] schedule = new int[ROUNDS];

        /** Of the first n bytes (1 to 8) of a long whose other bytes are 0. */
        private void digest(int n, long bytes, int[] address) {
            padBlock(n, bytes);
            expandBlock();
            mixBlock(address);
        }

        private void padBlock(int n, long bytes) {
            boolean endsInside = n < CHUNK_BYTES;
            long padded = endsInside ? bytes | (0x80L << (56 - 8 * n)) : bytes;
            schedule[0] = (int) (padded >>> 32);
            schedule[1] = (int) padded;
            schedule[2] = endsInside ? 0 : 0x80000000;
            // Words 3 to 14 are 0 for so few bytes, and nothing else is ever written there.
            schedule[BLOCK_WORDS - 1] = 8 * n;
        }

        private void expandBlock() {
            for (int t = BLOCK_WORDS; t < ROUNDS; t++) {
                int early = schedule[t - 15];
                int late = schedule[t - 2];
                int sigma0 = turnRight(early, 7) ^ turnRight(early, 18) ^ (early >>> 3);
                int sigma1 = turnRight(late, 17) ^ turnRight(late, 19) ^ (late >>> 10);
                schedule[t] = sigma1 + schedule[t - 7] + sigma0 + schedule[t - 16];
            }
        }

        private void mixBlock(int[] address) {
            int a = FIRST_HASH[0];
            int b = FIRST_HASH[1];
            int c = FIRST_HASH[2];
            int d = FIRST_HASH[3];
            int e = FIRST_HASH[4];
            int f = FIRST_HASH[5];
            int g = FIRST_HASH[6];
            int h = FIRST_HASH[7];
            for (int t = 0; t < ROUNDS; t++) {
                int sum1 = turnRight(e, 6) ^ turnRight(e, 11) ^ turnRight(e, 25);
                int choice = (e & f) ^ (~e & g);
                int first = h + sum1 + choice + ROUND_WORDS[t] + schedule[t];
                int sum0 = turnRight(a, 2) ^ turnRight(a, 13) ^ turnRight(a, 22);
                int majority = (a & b) ^ (a & c) ^ (b & c);
                h = g;
                g = f;
                f = e;
                e = d + first;
                d = c;
                c = b;
                b = a;
                a = first + sum0 + majority;
            }
            address[0] = FIRST_HASH[0] + a;
            address[1] = FIRST_HASH[1] + b;
            address[2] = FIRST_HASH[2] + c;
            address[3] = FIRST_HASH[3] + d;
            address[4] = FIRST_HASH[4] + e;
            address[5] = FIRST_HASH[5] + f;
            address[6] = FIRST_HASH[6] + g;
            address[7] = FIRST_HASH[7] + h;
        }

        private static int turnRight(int word, int places) {
            return (word >>> places) | (word << (32 - places));
        }
    }
}
