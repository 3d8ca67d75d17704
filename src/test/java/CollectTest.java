/** Promise 7: collect. */
public final class CollectTest {
    private static final Check CHECK = new Check("CollectTest");

    public static void main(String[] args) {
        CHECK.says("All slots with chunks that are not NEEDED become free", CollectTest::onlyWhatIsNotNeeded);
        CHECK.says("All slots with chunks that are not NEEDED become free", CollectTest::everySlot);
        CHECK.says("All slots with chunks that are not NEEDED become free", CollectTest::neededOnceOfManyIsEnough);
        CHECK.says("All slots with chunks that are not NEEDED become free", CollectTest::freedSlotsAreUsedAgain);
        CHECK.says("from the least number on", CollectTest::fromTheLeastNumberOn);
        CHECK.says("each one a write", CollectTest::eachOneAWrite);
        CHECK.says("those before the power goes stay free", CollectTest::thoseBeforeStayFree);
        CHECK.says("how many", CollectTest::noneOfNoChunks);
        CHECK.says("how many", CollectTest::noneWhenAllAreNeeded);
        CHECK.says("how many", CollectTest::noneTheSecondTime);
        CHECK.says("IllegalStateException: DOWN.", CollectTest::down);
        CHECK.says("UnsupportedOperationException: the power goes.", CollectTest::powerGoes);
        CHECK.says("UnsupportedOperationException: the power goes.", CollectTest::powerDoesNotGoWithoutAWrite);
        CHECK.end();
    }

    /** Chunks 0 to 7: 1 is in a part, 3 in a part and a version, 5 and 6 in a version, the others nowhere. */
    private static BlobStore withSomeNeeded() {
        BlobStore x = Stores.withChunks(8);
        x.part(0, 1, 24, 1002, 1004, 1001);
        x.begin(1, 1);
        x.part(1, 6, 16, 1003, 1001, 0);
        x.begin(2, 2);
        x.part(2, 1, 24, 1005, 1003, 1006);
        x.complete(2);
        x.delete(Stores.version(x, 2, 2, 1007));
        x.abort(0);
        return x;
    }

    private static void onlyWhatIsNotNeeded() {
        BlobStore x = withSomeNeeded();
        CHECK.due("collect()", x.collect(), 4);
        int[] want = {-1, 1, -1, 2, -1, 1, 1, -1};
        for (int slot = 0; slot < want.length; slot++) {
            CHECK.due("needed(" + slot + ")", x.needed(slot), want[slot]);
            CHECK.due("slotOf(8, " + (1000 + slot) + ")", x.slotOf(8, 1000 + slot), want[slot] < 0 ? -1 : slot);
        }
        CHECK.due("state(0)", x.state(0), 4);
        CHECK.due("byteAt(1, 7)", x.byteAt(1, 7), 1005 & 255);
        CHECK.due("byteAt(1, 15)", x.byteAt(1, 15), 1003 & 255);
        CHECK.due("byteAt(1, 23)", x.byteAt(1, 23), 1006 & 255);
    }

    private static void everySlot() {
        BlobStore x = Stores.withChunks(48);
        CHECK.due("collect()", x.collect(), 48);
        CHECK.due("state(0)", x.state(0), 0);
        for (int slot = 0; slot < 48; slot++) {
            int freed = slot;
            CHECK.due("needed(" + slot + ")", x.needed(slot), -1);
            CHECK.due("slotOf(8, " + (1000 + slot) + ")", x.slotOf(8, 1000 + slot), -1);
            CHECK.dueThrow("address(" + slot + ", 0)", Check.ELEMENT, () -> x.address(freed, 0));
        }
    }

    private static void neededOnceOfManyIsEnough() {
        BlobStore x = Stores.withSession();
        x.part(0, 1, 24, 5, 5, 5);
        x.part(0, 2, 8, 5, 0, 0);
        x.part(0, 1, 0, 0, 0, 0);
        CHECK.due("collect(), still in part 2", x.collect(), 0);
        x.complete(0);
        CHECK.due("collect(), in the version", x.collect(), 0);
        Stores.version(x, 0, 0, 5);
        x.delete(1);
        CHECK.due("collect(), in the other version", x.collect(), 0);
        x.delete(2);
        CHECK.due("collect(), in none", x.collect(), 1);
    }

    private static void freedSlotsAreUsedAgain() {
        BlobStore x = Stores.withVersion(5);
        x.delete(1);
        x.collect();
        CHECK.due("another chunk's version", Stores.version(x, 0, 0, 6), 2);
        CHECK.due("slotOf(8, 6)", x.slotOf(8, 6), 0);
        CHECK.due("size(1) stays deleted", x.size(1), -1);
        CHECK.due("byteAt(2, 7)", x.byteAt(2, 7), 6);
        CHECK.due("needed(0)", x.needed(0), 1);
        x.begin(0, 0);
        CHECK.due("the freed chunk comes anew", x.part(0, 1, 8, 5, 0, 0), 1);
        CHECK.due("slotOf(8, 5)", x.slotOf(8, 5), 1);
    }

    private static void fromTheLeastNumberOn() {
        int[] unneeded = {0, 2, 4, 7};
        for (int n = 0; n < 4; n++) {
            BlobStore x = withSomeNeeded();
            x.cutAfter(n);
            CHECK.dueThrow("collect(), cut behind " + n, Check.POWER, () -> x.collect());
            for (int i = 0; i < unneeded.length; i++) {
                CHECK.due("needed(" + unneeded[i] + "), cut behind " + n, x.needed(unneeded[i]), i < n ? -1 : 0);
            }
        }
    }

    private static void eachOneAWrite() {
        BlobStore x = withSomeNeeded();
        int before = x.state(4);
        x.collect();
        CHECK.due("the writes of collect()", x.state(4) - before, 4);
        BlobStore y = withSomeNeeded();
        y.cutAfter(4);
        CHECK.due("collect(), cut behind its four writes", y.collect(), 4);
        CHECK.due("state(5)", y.state(5), 0);
        CHECK.dueThrow("the next write", Check.POWER, () -> y.begin(0, 0));
    }

    private static void thoseBeforeStayFree() {
        for (int n = 0; n < 4; n++) {
            BlobStore x = withSomeNeeded();
            int before = x.state(4);
            x.cutAfter(n);
            CHECK.dueThrow("collect(), cut behind " + n, Check.POWER, () -> x.collect());
            CHECK.due("state(0), cut behind " + n, x.state(0), 8 - n);
            CHECK.due("state(4), cut behind " + n, x.state(4), before + n);
            x.recover();
            CHECK.due("state(0), recovered", x.state(0), 8 - n);
            CHECK.due("collect(), recovered", x.collect(), 4 - n);
        }
    }

    private static void noneOfNoChunks() {
        Twins.unchanged(CHECK, "collect(), no chunks", Stores::withSession,
                x -> CHECK.due("collect(), no chunks", x.collect(), 0));
    }

    private static void noneWhenAllAreNeeded() {
        Twins.unchanged(CHECK, "collect(), all needed", () -> Stores.withVersion(5),
                x -> CHECK.due("collect(), all needed", x.collect(), 0));
    }

    private static void noneTheSecondTime() {
        BlobStore x = withSomeNeeded();
        x.collect();
        CHECK.due("collect() again", x.collect(), 0);
    }

    private static void down() {
        Twins.refused(CHECK, "collect(), down", Check.STATE, () -> Stores.down(withSomeNeeded()), x -> x.collect());
        Twins.refused(CHECK, "collect() of nothing, down", Check.STATE, () -> Stores.down(new BlobStore()),
                x -> x.collect());
    }

    private static void powerGoes() {
        Twins.cut(CHECK, "collect()", CollectTest::withSomeNeeded, x -> x.collect());
    }

    private static void powerDoesNotGoWithoutAWrite() {
        BlobStore x = Stores.cut(Stores.withVersion(5));
        CHECK.due("collect() of nothing, cut", x.collect(), 0);
        CHECK.due("state(5)", x.state(5), 0);
    }
}
