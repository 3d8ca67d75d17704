/** Promise 5: abort. */
public final class AbortTest {
    private static final Check CHECK = new Check("AbortTest");

    public static void main(String[] args) {
        CHECK.says("A session ends.", AbortTest::sessionEnds);
        CHECK.says("A session ends.", AbortTest::eachOfTheFive);
        CHECK.says("A session ends.", AbortTest::itsPartsNeedNothingAndItsChunksStay);
        CHECK.says("IllegalStateException: DOWN.", AbortTest::down);
        CHECK.says("IllegalArgumentException: no such one is open.", AbortTest::noSuchSession);
        CHECK.says("IllegalArgumentException: no such one is open.", AbortTest::endedAlready);
        CHECK.says("UnsupportedOperationException: the power goes.", AbortTest::powerGoes);
        CHECK.says("IllegalStateException: DOWN. IllegalArgumentException: no such one is open.",
                AbortTest::downComesFirst);
        CHECK.says("IllegalArgumentException: no such one is open. UnsupportedOperationException: the power goes.",
                AbortTest::sessionComesBeforePower);
        CHECK.end();
    }

    private static void sessionEnds() {
        BlobStore x = Stores.withSessions(3);
        x.abort(1);
        CHECK.due("state(1)", x.state(1), 2);
        CHECK.due("state(3): no version comes", x.state(3), 0);
        CHECK.dueThrow("part(1, ..)", Check.ARGUMENT, () -> x.part(1, 1, 0, 0, 0, 0));
        CHECK.dueThrow("complete(1)", Check.ARGUMENT, () -> x.complete(1));
        CHECK.due("complete(2)", x.complete(2), 1);
    }

    private static void eachOfTheFive() {
        for (int session = 0; session < 5; session++) {
            BlobStore x = Stores.withSessions(5);
            x.abort(session);
            CHECK.due("state(1)", x.state(1), 4);
            CHECK.due("begin(0, 0) behind abort(" + session + ")", x.begin(0, 0), session);
        }
    }

    private static void itsPartsNeedNothingAndItsChunksStay() {
        BlobStore x = Stores.withSessions(2);
        x.part(0, 1, 16, 5, 6, 0);
        x.part(1, 1, 8, 5, 0, 0);
        x.abort(0);
        CHECK.due("needed(0)", x.needed(0), 1);
        CHECK.due("needed(1)", x.needed(1), 0);
        CHECK.due("state(0)", x.state(0), 2);
    }

    private static void down() {
        Twins.refused(CHECK, "abort(0), down", Check.STATE, () -> Stores.down(Stores.busy()), x -> x.abort(0));
    }

    private static void noSuchSession() {
        for (int session : new int[] {-1, 1, 4, 5, Stores.LEAST, Stores.MOST}) {
            Twins.refused(CHECK, "abort(" + session + ")", Check.ARGUMENT, Stores::busy, x -> x.abort(session));
        }
    }

    private static void endedAlready() {
        BlobStore x = Stores.withSessions(2);
        x.abort(0);
        CHECK.dueThrow("abort(0) again", Check.ARGUMENT, () -> x.abort(0));
        x.complete(1);
        CHECK.dueThrow("abort(1) behind complete(1)", Check.ARGUMENT, () -> x.abort(1));
    }

    private static void powerGoes() {
        Twins.cut(CHECK, "abort(0)", Stores::busy, x -> x.abort(0));
    }

    private static void downComesFirst() {
        Twins.refused(CHECK, "abort(5), down", Check.STATE, () -> Stores.down(Stores.busy()), x -> x.abort(5));
    }

    private static void sessionComesBeforePower() {
        Twins.refused(CHECK, "abort(1), cut", Check.ARGUMENT, () -> Stores.cut(Stores.busy()), x -> x.abort(1));
    }
}
