/** Promise 1: a new object. */
public final class NewObjectTest {
    private static final Check CHECK = new Check("NewObjectTest");

    public static void main(String[] args) {
        CHECK.says("No chunks", NewObjectTest::noChunks);
        CHECK.says("No chunks, sessions", NewObjectTest::noSessions);
        CHECK.says("No chunks, sessions, versions", NewObjectTest::noVersions);
        CHECK.says("the power is on", NewObjectTest::powerIsOn);
        CHECK.says("no cut is told", NewObjectTest::noCutIsTold);
        CHECK.says("No chunks, sessions, versions; the power is on, no cut is told.", NewObjectTest::objectsAreApart);
        CHECK.end();
    }

    private static void noChunks() {
        BlobStore x = new BlobStore();
        CHECK.due("state(0)", x.state(0), 0);
        for (int slot = 0; slot < 48; slot++) {
            int free = slot;
            CHECK.due("needed(" + slot + ")", x.needed(slot), -1);
            CHECK.dueThrow("address(" + slot + ", 0)", Check.ELEMENT, () -> x.address(free, 0));
        }
        for (int n = 1; n <= 8; n++) {
            CHECK.due("slotOf(" + n + ", 0)", x.slotOf(n, 0), -1);
        }
        CHECK.due("collect()", x.collect(), 0);
    }

    private static void noSessions() {
        BlobStore x = new BlobStore();
        CHECK.due("state(1)", x.state(1), 0);
        for (int session = 0; session < 5; session++) {
            int closed = session;
            CHECK.dueThrow("part(" + session + ", ..)", Check.ARGUMENT, () -> x.part(closed, 1, 0, 0, 0, 0));
            CHECK.dueThrow("complete(" + session + ")", Check.ARGUMENT, () -> x.complete(closed));
            CHECK.dueThrow("abort(" + session + ")", Check.ARGUMENT, () -> x.abort(closed));
        }
    }

    private static void noVersions() {
        BlobStore x = new BlobStore();
        CHECK.due("state(2)", x.state(2), 0);
        CHECK.due("state(3)", x.state(3), 0);
        for (int version = 0; version <= 41; version++) {
            CHECK.due("size(" + version + ")", x.size(version), -1);
            CHECK.due("byteAt(" + version + ", 0)", x.byteAt(version, 0), -1);
            CHECK.due("delete(" + version + ")", x.delete(version), false);
        }
        for (int place = 0; place < 32; place++) {
            CHECK.due("latest(" + place / 8 + ", " + place % 8 + ")", x.latest(place / 8, place % 8), 0);
        }
    }

    private static void powerIsOn() {
        BlobStore x = new BlobStore();
        CHECK.due("state(5)", x.state(5), 0);
        CHECK.due("recover()", x.recover(), false);
        CHECK.due("begin(0, 0)", x.begin(0, 0), 0);
    }

    private static void noCutIsTold() {
        BlobStore x = new BlobStore();
        for (int i = 0; i < 255; i++) {
            x.begin(0, 0);
            x.abort(0);
        }
        CHECK.due("state(4)", x.state(4), 510);
        CHECK.due("state(5)", x.state(5), 0);
    }

    private static void objectsAreApart() {
        BlobStore x = Stores.busy();
        BlobStore y = new BlobStore();
        String told = Twins.allThatIsTold(y);
        Stores.cut(x);
        CHECK.due("begin(0, 0) beside one whose power goes", y.begin(0, 0), 0);
        Stores.down(x);
        y.abort(0);
        CHECK.due("a third one beside them is new", Twins.allThatIsTold(new BlobStore()).equals(told), true);
    }
}
