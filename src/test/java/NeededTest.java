/** Promise 14: needed. */
public final class NeededTest {
    private static final Check CHECK = new Check("NeededTest");

    public static void main(String[] args) {
        CHECK.says("A slot is NEEDED as often as it stands in a part of an open session", NeededTest::oftenInOnePart);
        CHECK.says("A slot is NEEDED as often as it stands in a part of an open session", NeededTest::inSeveralParts);
        CHECK.says("A slot is NEEDED as often as it stands in a part of an open session", NeededTest::inEverySession);
        CHECK.says("A slot is NEEDED as often as it stands in a part of an open session", NeededTest::notInAnEndedOne);
        CHECK.says("A slot is NEEDED as often as it stands in a part of an open session",
                NeededTest::notInAPartReplaced);
        CHECK.says("or in a version that lives", NeededTest::inVersions);
        CHECK.says("or in a version that lives", NeededTest::notInADeletedOne);
        CHECK.says("How often a slot is NEEDED", NeededTest::theMostThereIs);
        CHECK.says("How often a slot is NEEDED", NeededTest::notAtAll);
        CHECK.says("-1 when it is free", NeededTest::neverUsed);
        CHECK.says("-1 when it is free", NeededTest::freedAgain);
        CHECK.says("or there is none", NeededTest::noSuchSlot);
        CHECK.end();
    }

    private static void oftenInOnePart() {
        BlobStore x = Stores.withSession();
        x.part(0, 1, 24, 7, 8, 7);
        CHECK.due("needed(0)", x.needed(0), 2);
        CHECK.due("needed(1)", x.needed(1), 1);
    }

    private static void inSeveralParts() {
        BlobStore x = Stores.withSession();
        for (int number = 1; number <= 6; number++) {
            x.part(0, number, 8, 7, 0, 0);
            CHECK.due("needed(0), parts to " + number, x.needed(0), number);
        }
    }

    private static void inEverySession() {
        BlobStore x = Stores.withSessions(5);
        for (int session = 0; session < 5; session++) {
            x.part(session, 6, 8, 7, 0, 0);
            CHECK.due("needed(0), sessions to " + session, x.needed(0), session + 1);
        }
    }

    private static void notInAnEndedOne() {
        BlobStore x = Stores.withSession();
        x.part(0, 1, 24, 7, 7, 8);
        x.abort(0);
        CHECK.due("needed(0), aborted", x.needed(0), 0);
        CHECK.due("needed(1), aborted", x.needed(1), 0);
    }

    private static void notInAPartReplaced() {
        BlobStore x = Stores.withSession();
        x.part(0, 1, 24, 7, 7, 8);
        x.part(0, 1, 8, 8, 0, 0);
        CHECK.due("needed(0), replaced", x.needed(0), 0);
        CHECK.due("needed(1), replaced", x.needed(1), 1);
    }

    private static void inVersions() {
        BlobStore x = Stores.withSession();
        x.part(0, 1, 24, 7, 7, 8);
        x.part(0, 6, 8, 7, 0, 0);
        x.complete(0);
        CHECK.due("needed(0), a version", x.needed(0), 3);
        Stores.version(x, 3, 7, 7);
        CHECK.due("needed(0), two versions", x.needed(0), 4);
        x.begin(0, 0);
        x.part(0, 2, 8, 7, 0, 0);
        CHECK.due("needed(0), two versions and a session", x.needed(0), 5);
        CHECK.due("needed(1)", x.needed(1), 1);
    }

    private static void notInADeletedOne() {
        BlobStore x = Stores.withVersion(7);
        Stores.version(x, 0, 0, 7);
        x.delete(1);
        CHECK.due("needed(0), one deleted", x.needed(0), 1);
        x.delete(2);
        CHECK.due("needed(0), both deleted", x.needed(0), 0);
    }

    /** 40 versions and 5 open sessions of 18 chunks each, all of them the same one. */
    private static void theMostThereIs() {
        BlobStore x = new BlobStore();
        for (int blob = 1; blob <= 45; blob++) {
            int session = x.begin(0, 0);
            for (int number = 1; number <= 6; number++) {
                x.part(session, number, 24, 7, 7, 7);
            }
            if (blob <= 40) {
                x.complete(session);
            }
        }
        CHECK.due("needed(0)", x.needed(0), 45 * 18);
        CHECK.due("state(0)", x.state(0), 1);
    }

    private static void notAtAll() {
        BlobStore x = Stores.withChunks(48);
        CHECK.due("needed(0)", x.needed(0), 0);
        CHECK.due("needed(47)", x.needed(47), 0);
        x.part(0, 1, 8, 1047, 0, 0);
        CHECK.due("needed(47), in a part", x.needed(47), 1);
        CHECK.due("needed(46)", x.needed(46), 0);
    }

    private static void neverUsed() {
        BlobStore x = Stores.withChunks(3);
        CHECK.due("needed(2)", x.needed(2), 0);
        CHECK.due("needed(3)", x.needed(3), -1);
        CHECK.due("needed(47)", x.needed(47), -1);
        CHECK.due("needed(0), new", new BlobStore().needed(0), -1);
    }

    private static void freedAgain() {
        BlobStore x = Stores.withGaps(5, 0, 3);
        int[] want = {-1, 1, 1, -1, 1};
        for (int slot = 0; slot < want.length; slot++) {
            CHECK.due("needed(" + slot + ")", x.needed(slot), want[slot]);
        }
    }

    private static void noSuchSlot() {
        BlobStore x = Stores.withChunks(48);
        for (int slot : new int[] {-1, 48, Stores.LEAST, Stores.MOST}) {
            CHECK.due("needed(" + slot + ")", x.needed(slot), -1);
        }
    }
}
