import java.nio.ByteBuffer;
import java.security.MessageDigest;
import java.security.NoSuchAlgorithmException;
import java.util.ArrayList;
import java.util.Arrays;
import java.util.List;
import java.util.Map;
import java.util.NoSuchElementException;
import java.util.TreeMap;

/** The document once more, in the library's collections and without thrift, to compare BlobStore with. */
final class PlainModel {
    private static final class Blob {
        int bucket;
        int key;
        boolean there = true;
        final TreeMap<Integer, List<Integer>> parts = new TreeMap<>();

        List<Integer> row() {
            List<Integer> row = new ArrayList<>();
            parts.values().forEach(row::addAll);
            return row;
        }
    }

    private final TreeMap<Integer, String> chunks = new TreeMap<>();
    private final TreeMap<Integer, Blob> sessions = new TreeMap<>();
    private final List<Blob> versions = new ArrayList<>();
    private int writes = 0;
    private Integer cut = null;
    private boolean down = false;

    private void up() {
        if (down) {
            throw new IllegalStateException();
        }
    }

    private void write(Runnable what) {
        if (cut != null && cut == 0) {
            down = true;
            throw new UnsupportedOperationException();
        }
        cut = cut == null ? null : Integer.valueOf(cut - 1);
        writes++;
        what.run();
    }

    private static void argument(boolean good) {
        if (!good) {
            throw new IllegalArgumentException();
        }
    }

    int begin(int bucket, int key) {
        up();
        if (sessions.size() == 5) {
            throw new IllegalStateException();
        }
        argument(bucket >= 0 && bucket <= 3 && key >= 0 && key <= 7);
        int number = 0;
        while (sessions.containsKey(number)) {
            number++;
        }
        Blob blob = new Blob();
        blob.bucket = bucket;
        blob.key = key;
        int opened = number;
        write(() -> sessions.put(opened, blob));
        return number;
    }

    int part(int session, int number, int n, long a, long b, long c) {
        up();
        argument(sessions.containsKey(session) && number >= 1 && number <= 6 && n >= 0 && n <= 24);
        List<String> cutUp = new ArrayList<>();
        String all = hex(a) + hex(b) + hex(c);
        for (int i = 0; i < n; i += 8) {
            cutUp.add(all.substring(2 * i, 2 * Math.min(i + 8, n)));
        }
        long missing = cutUp.stream().distinct().filter(chunk -> !chunks.containsValue(chunk)).count();
        if (missing > 48 - chunks.size()) {
            throw new IndexOutOfBoundsException();
        }
        int came = 0;
        List<Integer> row = new ArrayList<>();
        for (String chunk : cutUp) {
            if (find(chunk) < 0) {
                int free = 0;
                while (chunks.containsKey(free)) {
                    free++;
                }
                int slot = free;
                write(() -> chunks.put(slot, chunk));
                came++;
            }
            row.add(find(chunk));
        }
        write(() -> sessions.get(session).parts.put(number, row));
        return came;
    }

    int complete(int session) {
        up();
        if (versions.size() == 40) {
            throw new IllegalStateException();
        }
        argument(sessions.containsKey(session));
        write(() -> versions.add(sessions.remove(session)));
        return versions.size();
    }

    void abort(int session) {
        up();
        argument(sessions.containsKey(session));
        write(() -> sessions.remove(session));
    }

    boolean delete(int version) {
        up();
        Blob blob = living(version);
        if (blob == null) {
            return false;
        }
        write(() -> blob.there = false);
        return true;
    }

    int collect() {
        up();
        int freed = 0;
        for (int slot = 0; slot < 48; slot++) {
            if (needed(slot) == 0) {
                int unneeded = slot;
                write(() -> chunks.remove(unneeded));
                freed++;
            }
        }
        return freed;
    }

    void cutAfter(int n) {
        argument(n >= 0 && n <= 1000);
        cut = n;
    }

    boolean recover() {
        if (!down) {
            return false;
        }
        down = false;
        cut = null;
        return true;
    }

    int latest(int bucket, int key) {
        int latest = 0;
        for (int version = 1; version <= versions.size(); version++) {
            Blob blob = living(version);
            latest = blob != null && blob.bucket == bucket && blob.key == key ? version : latest;
        }
        return latest;
    }

    int size(int version) {
        return living(version) == null ? -1 : bytes(version).length() / 2;
    }

    int byteAt(int version, int i) {
        if (i < 0 || i >= size(version)) {
            return -1;
        }
        return Integer.parseInt(bytes(version).substring(2 * i, 2 * i + 2), 16);
    }

    int address(int slot, int w) {
        if (!chunks.containsKey(slot) || w < 0 || w > 7) {
            throw new NoSuchElementException();
        }
        String chunk = chunks.get(slot);
        long padded = Long.parseUnsignedLong((chunk + "0".repeat(16)).substring(0, 16), 16);
        byte[] bytes = Arrays.copyOf(ByteBuffer.allocate(8).putLong(padded).array(), chunk.length() / 2);
        try {
            return ByteBuffer.wrap(MessageDigest.getInstance("SHA-256").digest(bytes)).getInt(4 * w);
        } catch (NoSuchAlgorithmException e) {
            throw new AssertionError(e);
        }
    }

    int needed(int slot) {
        if (!chunks.containsKey(slot)) {
            return -1;
        }
        List<Integer> all = new ArrayList<>();
        sessions.values().forEach(session -> all.addAll(session.row()));
        versions.stream().filter(version -> version.there).forEach(version -> all.addAll(version.row()));
        return (int) all.stream().filter(each -> each == slot).count();
    }

    int slotOf(int n, long a) {
        return n < 1 || n > 8 ? -1 : find(hex(a).substring(0, 2 * n));
    }

    int state(int what) {
        Blob last = versions.isEmpty() ? null : versions.get(versions.size() - 1);
        int living = (int) versions.stream().filter(version -> version.there).count();
        int[] all = {chunks.size(), sessions.size(), living, versions.size(), writes, down ? 1 : 0,
            last == null ? -1 : last.bucket, last == null ? -1 : last.key};
        return what >= 0 && what < all.length ? all[what] : -1;
    }

    private static String hex(long a) {
        return String.format("%016x", a);
    }

    private int find(String chunk) {
        for (Map.Entry<Integer, String> entry : chunks.entrySet()) {
            if (entry.getValue().equals(chunk)) {
                return entry.getKey();
            }
        }
        return -1;
    }

    private Blob living(int version) {
        boolean lives = version >= 1 && version <= versions.size() && versions.get(version - 1).there;
        return lives ? versions.get(version - 1) : null;
    }

    private String bytes(int version) {
        StringBuilder bytes = new StringBuilder();
        living(version).row().forEach(slot -> bytes.append(chunks.get(slot)));
        return bytes.toString();
    }
}
