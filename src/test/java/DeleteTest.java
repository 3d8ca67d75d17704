/** Promise 6: delete. */
public final class DeleteTest {
    private static final Check CHECK = new Check("DeleteTest");

    public static void main(String[] args) {
        CHECK.says("A version is deleted", DeleteTest::versionIsDeleted);
        CHECK.says("A version is deleted", DeleteTest::versionOfNoBytesIsDeleted);
        CHECK.says("(its slots stay till collect())", DeleteTest::slotsStayTillCollect);
        CHECK.says("false, without a write, when it does not live", DeleteTest::deletedAlready);
        CHECK.says("false, without a write, when it does not live", DeleteTest::neverGiven);
        CHECK.says("false, without a write, when it does not live", DeleteTest::withoutAWriteNoPowerGoes);
        CHECK.says("IllegalStateException: DOWN.", DeleteTest::down);
        CHECK.says("UnsupportedOperationException: the power goes.", DeleteTest::powerGoes);
        CHECK.end();
    }

    private static void versionIsDeleted() {
        BlobStore x = Stores.withVersion(7);
        Stores.version(x, 3, 7, 8);
        CHECK.due("delete(1)", x.delete(1), true);
        CHECK.due("size(1)", x.size(1), -1);
        CHECK.due("byteAt(1, 0)", x.byteAt(1, 0), -1);
        CHECK.due("latest(0, 0)", x.latest(0, 0), 0);
        CHECK.due("needed(0)", x.needed(0), 0);
        CHECK.due("state(2)", x.state(2), 1);
        CHECK.due("state(3)", x.state(3), 2);
        CHECK.due("size(2): the other one lives", x.size(2), 8);
        CHECK.due("delete(2)", x.delete(2), true);
        CHECK.due("state(2)", x.state(2), 0);
    }

    private static void versionOfNoBytesIsDeleted() {
        BlobStore x = Stores.withEmptyVersions(1);
        CHECK.due("delete(1)", x.delete(1), true);
        CHECK.due("size(1)", x.size(1), -1);
    }

    private static void slotsStayTillCollect() {
        BlobStore x = Stores.withVersion(7);
        x.delete(1);
        CHECK.due("state(0)", x.state(0), 1);
        CHECK.due("needed(0)", x.needed(0), 0);
        CHECK.due("slotOf(8, 7)", x.slotOf(8, 7), 0);
        CHECK.due("collect()", x.collect(), 1);
        CHECK.due("needed(0), collected", x.needed(0), -1);
    }

    private static BlobStore withOneDeleted() {
        BlobStore x = Stores.busy();
        x.delete(1);
        return x;
    }

    private static void deletedAlready() {
        Twins.unchanged(CHECK, "delete(1) again", DeleteTest::withOneDeleted,
                x -> CHECK.due("delete(1) again", x.delete(1), false));
    }

    private static void neverGiven() {
        for (int version : new int[] {0, -1, 2, 40, 41, Stores.LEAST, Stores.MOST}) {
            Twins.unchanged(CHECK, "delete(" + version + ")", Stores::busy,
                    x -> CHECK.due("delete(" + version + ")", x.delete(version), false));
        }
        BlobStore x = Stores.withEmptyVersions(40);
        CHECK.due("delete(41) behind 40 versions", x.delete(41), false);
        CHECK.due("delete(0) behind 40 versions", x.delete(0), false);
    }

    private static void withoutAWriteNoPowerGoes() {
        Twins.unchanged(CHECK, "delete(1) again, cut", () -> Stores.cut(withOneDeleted()),
                x -> CHECK.due("delete(1) again, cut", x.delete(1), false));
        Twins.unchanged(CHECK, "delete(2), cut", () -> Stores.cut(Stores.busy()),
                x -> CHECK.due("delete(2), cut", x.delete(2), false));
    }

    private static void down() {
        Twins.refused(CHECK, "delete(1), down", Check.STATE, () -> Stores.down(Stores.busy()), x -> x.delete(1));
        for (int version : new int[] {0, 2, 41}) {
            Twins.refused(CHECK, "delete(" + version + "), down", Check.STATE, () -> Stores.down(Stores.busy()),
                    x -> x.delete(version));
        }
    }

    private static void powerGoes() {
        Twins.cut(CHECK, "delete(1)", Stores::busy, x -> x.delete(1));
    }
}
