/** Promise 4: complete. */
public final class CompleteTest {
    private static final Check CHECK = new Check("CompleteTest");

    public static void main(String[] args) {
        CHECK.says("A version comes, of its session's bucket and key", CompleteTest::bucketAndKeyOfItsSession);
        CHECK.says("whose row of slots is those of its parts in the order of their numbers",
                CompleteTest::partsByNumber);
        CHECK.says("whose row of slots is those of its parts in the order of their numbers", CompleteTest::mostBytes);
        CHECK.says("the session ends", CompleteTest::sessionEnds);
        CHECK.says("(without parts a version of no bytes)", CompleteTest::withoutParts);
        CHECK.says("(without parts a version of no bytes)", CompleteTest::withEmptyPartsOnly);
        CHECK.says("the version's number", CompleteTest::numbersGoUp);
        CHECK.says("IllegalStateException: DOWN", CompleteTest::down);
        CHECK.says("There are at most 40 versions ever.", CompleteTest::fortiethVersionComes);
        CHECK.says("or there were 40 versions", CompleteTest::thereWereForty);
        CHECK.says("or there were 40 versions", CompleteTest::deletedOnesCountToo);
        CHECK.says("IllegalArgumentException: no such session is open.", CompleteTest::noSuchSession);
        CHECK.says("UnsupportedOperationException: the power goes.", CompleteTest::powerGoes);
        CHECK.says("As for begin()", CompleteTest::downComesFirst);
        CHECK.says("As for begin()", CompleteTest::fortyComeBeforeSessionAndPower);
        CHECK.says("As for begin()", CompleteTest::sessionComesBeforePower);
        CHECK.end();
    }

    private static void bucketAndKeyOfItsSession() {
        BlobStore x = new BlobStore();
        x.begin(0, 0);
        x.begin(3, 7);
        x.begin(2, 5);
        x.complete(1);
        CHECK.due("state(6)", x.state(6), 3);
        CHECK.due("state(7)", x.state(7), 7);
        x.complete(2);
        CHECK.due("latest(3, 7)", x.latest(3, 7), 1);
        CHECK.due("latest(2, 5)", x.latest(2, 5), 2);
        CHECK.due("latest(0, 0)", x.latest(0, 0), 0);
    }

    private static void partsByNumber() {
        BlobStore x = Stores.withSession();
        x.part(0, 6, 3, 0xC1C2C30000000000L, 0, 0);
        x.part(0, 2, 9, 0xA1A2A3A4A5A6A7A8L, 0xA900000000000000L, 0);
        x.part(0, 4, 0, 0, 0, 0);
        x.part(0, 5, 1, 0xB100000000000000L, 0, 0);
        x.complete(0);
        int[] want = {0xA1, 0xA2, 0xA3, 0xA4, 0xA5, 0xA6, 0xA7, 0xA8, 0xA9, 0xB1, 0xC1, 0xC2, 0xC3};
        CHECK.due("size(1)", x.size(1), want.length);
        for (int i = 0; i < want.length; i++) {
            CHECK.due("byteAt(1, " + i + ")", x.byteAt(1, i), want[i]);
        }
    }

    private static void mostBytes() {
        BlobStore x = Stores.withSession();
        for (int number = 6; number >= 1; number--) {
            x.part(0, number, 24, 3 * number - 2, 3 * number - 1, 3 * number);
        }
        x.complete(0);
        CHECK.due("size(1), six full parts", x.size(1), 144);
        for (int i = 0; i < 18; i++) {
            CHECK.due("byteAt(1, " + (8 * i + 7) + ")", x.byteAt(1, 8 * i + 7), i + 1);
            CHECK.due("needed(" + i + ")", x.needed(i), 1);
        }
    }

    private static void sessionEnds() {
        BlobStore x = Stores.withSessions(2);
        x.part(0, 1, 8, 5, 0, 0);
        x.complete(0);
        CHECK.due("state(1)", x.state(1), 1);
        CHECK.due("needed(0): in the version alone", x.needed(0), 1);
        CHECK.dueThrow("complete(0) again", Check.ARGUMENT, () -> x.complete(0));
        CHECK.dueThrow("abort(0)", Check.ARGUMENT, () -> x.abort(0));
        CHECK.dueThrow("part(0, ..)", Check.ARGUMENT, () -> x.part(0, 1, 8, 5, 0, 0));
        CHECK.due("begin(0, 0)", x.begin(0, 0), 0);
    }

    private static void withoutParts() {
        BlobStore x = Stores.withSession();
        CHECK.due("complete(0)", x.complete(0), 1);
        CHECK.due("size(1)", x.size(1), 0);
        CHECK.due("byteAt(1, 0)", x.byteAt(1, 0), -1);
        CHECK.due("latest(0, 0)", x.latest(0, 0), 1);
        CHECK.due("state(2)", x.state(2), 1);
    }

    private static void withEmptyPartsOnly() {
        BlobStore x = Stores.withSession();
        x.part(0, 1, 8, 5, 0, 0);
        x.part(0, 1, 0, 0, 0, 0);
        x.part(0, 6, 0, 0, 0, 0);
        CHECK.due("complete(0)", x.complete(0), 1);
        CHECK.due("size(1)", x.size(1), 0);
        CHECK.due("needed(0)", x.needed(0), 0);
    }

    private static void numbersGoUp() {
        BlobStore x = Stores.withSessions(5);
        int[] order = {3, 0, 4, 1, 2};
        for (int i = 0; i < order.length; i++) {
            CHECK.due("complete(" + order[i] + ")", x.complete(order[i]), i + 1);
        }
    }

    private static void down() {
        Twins.refused(CHECK, "complete(0), down", Check.STATE, () -> Stores.down(Stores.busy()), x -> x.complete(0));
    }

    private static BlobStore withFortyAndASession() {
        BlobStore x = Stores.withEmptyVersions(40);
        x.begin(3, 7);
        return x;
    }

    private static void fortiethVersionComes() {
        BlobStore x = Stores.withEmptyVersions(39);
        x.begin(3, 7);
        x.part(0, 6, 24, 1, 2, 3);
        CHECK.due("complete(0) behind 39 versions", x.complete(0), 40);
        CHECK.due("size(40)", x.size(40), 24);
        CHECK.due("byteAt(40, 23)", x.byteAt(40, 23), 3);
        CHECK.due("latest(3, 7)", x.latest(3, 7), 40);
        CHECK.due("state(2)", x.state(2), 40);
        CHECK.due("state(3)", x.state(3), 40);
        CHECK.due("needed(2)", x.needed(2), 1);
        CHECK.due("delete(40)", x.delete(40), true);
    }

    private static void thereWereForty() {
        Twins.refused(CHECK, "complete(0) behind 40 versions", Check.STATE, CompleteTest::withFortyAndASession,
                x -> x.complete(0));
    }

    private static void deletedOnesCountToo() {
        BlobStore x = withFortyAndASession();
        for (int version = 1; version <= 40; version++) {
            x.delete(version);
        }
        CHECK.dueThrow("complete(0) behind 40 deleted versions", Check.STATE, () -> x.complete(0));
        CHECK.due("state(2)", x.state(2), 0);
        CHECK.due("state(3)", x.state(3), 40);
    }

    private static void noSuchSession() {
        for (int session : new int[] {-1, 1, 4, 5, Stores.LEAST, Stores.MOST}) {
            Twins.refused(CHECK, "complete(" + session + ")", Check.ARGUMENT, Stores::busy, x -> x.complete(session));
        }
    }

    private static void powerGoes() {
        Twins.cut(CHECK, "complete(0)", Stores::busy, x -> x.complete(0));
        Twins.cut(CHECK, "complete(0) of the first version", Stores::withSession, x -> x.complete(0));
    }

    private static void downComesFirst() {
        Twins.refused(CHECK, "complete(5), down", Check.STATE, () -> Stores.down(Stores.busy()), x -> x.complete(5));
    }

    private static void fortyComeBeforeSessionAndPower() {
        Twins.refused(CHECK, "complete(1) behind 40 versions", Check.STATE, CompleteTest::withFortyAndASession,
                x -> x.complete(1));
        Twins.refused(CHECK, "complete(0) behind 40 versions, cut", Check.STATE,
                () -> Stores.cut(withFortyAndASession()), x -> x.complete(0));
    }

    private static void sessionComesBeforePower() {
        Twins.refused(CHECK, "complete(1), cut", Check.ARGUMENT, () -> Stores.cut(Stores.busy()), x -> x.complete(1));
    }
}
