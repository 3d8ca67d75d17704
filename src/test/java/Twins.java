import java.util.function.Consumer;
import java.util.function.Function;
import java.util.function.Supplier;

/** For calls that do nothing: a store that has heard one goes on as its twin, which has not. */
final class Twins {
    private static final int STEPS_TO_A_CUT = 8;

    private Twins() {
    }

    /** The call throws, and does nothing. */
    static void refused(Check check, String call, Class<?> want, Supplier<BlobStore> maker, Consumer<BlobStore> run) {
        unchanged(check, call, maker, x -> check.dueThrow(call, want, () -> run.accept(x)));
    }

    /** The power goes at the call's first write, and behind recover() the store is as it was. */
    static void cut(Check check, String call, Supplier<BlobStore> maker, Consumer<BlobStore> run) {
        unchanged(check, call + " with the power going", maker, x -> {
            x.cutAfter(0);
            check.dueThrow(call + ", cut", Check.POWER, () -> run.accept(x));
            check.due("state(5) behind " + call + ", cut", x.state(5), 1);
            check.due("recover() behind " + call + ", cut", x.recover(), true);
        });
    }

    /** Each look has twins of its own, so that none of them hears more than its 512 calls. */
    static void unchanged(Check check, String call, Supplier<BlobStore> maker, Consumer<BlobStore> run) {
        same(check, call + ": what is told", maker, run, Twins::allThatIsTold);
        same(check, call + ": what the sessions become", maker, run, Twins::whatTheSessionsBecome);
        same(check, call + ": the writes to a cut", maker, run, x -> "" + writesToTheCut(x));
    }

    private static void same(Check check, String what, Supplier<BlobStore> maker, Consumer<BlobStore> run,
            Function<BlobStore, String> look) {
        BlobStore x = maker.get();
        run.accept(x);
        String got = look.apply(x);
        String want = look.apply(maker.get());
        if (!got.equals(want)) {
            check.tell(what + " is " + got + ", due is " + want);
        }
    }

    static String allThatIsTold(BlobStore x) {
        StringBuilder told = new StringBuilder("state");
        for (int what = 0; what < 8; what++) {
            told.append(' ').append(x.state(what));
        }
        told.append(", needed");
        for (int slot = 0; slot < 48; slot++) {
            int needed = x.needed(slot);
            told.append(' ').append(needed < 0 ? "-" : needed + "@" + x.address(slot, 0));
        }
        told.append(", latest");
        for (int place = 0; place < 32; place++) {
            told.append(' ').append(x.latest(place / 8, place % 8));
        }
        for (int version = 1; version <= x.state(3); version++) {
            int size = x.size(version);
            told.append(", version ").append(version).append(" of ").append(size);
            for (int i = 0; i < size; i++) {
                told.append(' ').append(x.byteAt(version, i));
            }
        }
        return told.toString();
    }

    /** An open session's bucket, key and parts are seen only in the version that it becomes. */
    private static String whatTheSessionsBecome(BlobStore x) {
        StringBuilder became = new StringBuilder();
        x.recover();
        for (int session = 0; session < 5; session++) {
            try {
                became.append(x.complete(session)).append(' ');
            } catch (RuntimeException e) {
                became.append(e.getClass().getSimpleName()).append(' ');
            }
        }
        return became + allThatIsTold(x);
    }

    /** How many writes are done before the power goes, or -1 when it stays. */
    static int writesToTheCut(BlobStore x) {
        x.recover();
        for (int writes = 0; writes < STEPS_TO_A_CUT; writes++) {
            try {
                oneWrite(x);
            } catch (UnsupportedOperationException e) {
                return writes;
            }
        }
        return -1;
    }

    private static void oneWrite(BlobStore x) {
        try {
            x.abort(0);
        } catch (IllegalArgumentException e) {
            x.begin(0, 0);
        }
    }
}
