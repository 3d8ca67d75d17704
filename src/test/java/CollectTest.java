/** Promise 7 (collect). */
public final class CollectTest {
    private static final Check CHECK = new Check("CollectTest");

    public static void main(String[] args) {
        nothingToCollect();
        onlyWhatIsNotNeededBecomesFree();
        everySlotBecomesFree();
        powerGoesAtEachSlot();
        freedSlotsAreUsedAgain();
        CHECK.end();
    }

    private static void nothingToCollect() {
        BlobStore x = new BlobStore();
        x.cutAfter(0);
        CHECK.due("collect, no chunks", x.collect(), 0);
        CHECK.due("writes", x.state(4), 0);
        CHECK.due("down", x.state(5), 0);
        BlobStore y = Stores.withVersion(5);
        y.cutAfter(0);
        CHECK.due("collect, all needed", y.collect(), 0);
        CHECK.due("down", y.state(5), 0);
        Stores.down(y);
        CHECK.dueThrow("collect, down, nothing to do", Check.STATE, () -> y.collect());
    }

    private static void onlyWhatIsNotNeededBecomesFree() {
        BlobStore x = Stores.withChunks(8);
        x.part(0, 1, 8, 1001, 0, 0);
        x.begin(1, 1);
        x.part(1, 1, 16, 1003, 1001, 0);
        x.begin(2, 2);
        x.part(2, 1, 24, 1005, 1003, 1006);
        x.complete(2);
        x.begin(2, 2);
        x.part(2, 1, 16, 1007, 1006, 0);
        x.complete(2);
        x.delete(2);
        x.abort(0);
        int writes = x.state(4);
        CHECK.due("collect", x.collect(), 4);
        CHECK.due("writes", x.state(4), writes + 4);
        int[] want = {-1, 1, -1, 2, -1, 1, 1, -1};
        for (int slot = 0; slot < want.length; slot++) {
            CHECK.due("needed(" + slot + ")", x.needed(slot), want[slot]);
        }
        CHECK.due("chunks", x.state(0), 4);
        CHECK.due("collect again", x.collect(), 0);
        CHECK.due("size(1)", x.size(1), 24);
        CHECK.due("versions that live", x.state(2), 1);
    }

    private static void everySlotBecomesFree() {
        BlobStore x = Stores.withChunks(48);
        CHECK.due("collect", x.collect(), 48);
        CHECK.due("chunks", x.state(0), 0);
        for (int slot = 0; slot < 48; slot++) {
            int freed = slot;
            CHECK.due("needed(" + slot + ")", x.needed(slot), -1);
            CHECK.due("slotOf", x.slotOf(8, 1000 + slot), -1);
            CHECK.dueThrow("address(" + slot + ", 0)", Check.ELEMENT, () -> x.address(freed, 0));
        }
    }

    private static void powerGoesAtEachSlot() {
        for (int n = 0; n <= 4; n++) {
            BlobStore x = Stores.withChunks(5);
            x.part(0, 1, 8, 1001, 0, 0);
            int[] unneeded = {0, 2, 3, 4};
            int writes = x.state(4);
            x.cutAfter(n);
            if (n < 4) {
                CHECK.dueThrow("collect, cut behind " + n, Check.POWER, () -> x.collect());
                CHECK.dueThrow("collect, down", Check.STATE, () -> x.collect());
            } else {
                CHECK.due("collect, cut behind " + n, x.collect(), 4);
            }
            CHECK.due("down, cut behind " + n, x.state(5), n < 4 ? 1 : 0);
            CHECK.due("writes, cut behind " + n, x.state(4), writes + n);
            CHECK.due("needed(1), cut behind " + n, x.needed(1), 1);
            for (int i = 0; i < unneeded.length; i++) {
                CHECK.due("needed, cut behind " + n, x.needed(unneeded[i]), i < n ? -1 : 0);
            }
            x.recover();
            CHECK.due("the rest", x.collect(), 4 - n);
        }
    }

    private static void freedSlotsAreUsedAgain() {
        BlobStore x = Stores.withVersion(5);
        x.delete(1);
        x.collect();
        CHECK.due("a part of the freed chunk", Stores.version(x, 0, 0, 6), 2);
        CHECK.due("slotOf 6", x.slotOf(8, 6), 0);
        CHECK.due("size(1) stays deleted", x.size(1), -1);
        CHECK.due("byteAt(2, 7)", x.byteAt(2, 7), 6);
        CHECK.due("needed(0)", x.needed(0), 1);
        x.begin(0, 0);
        CHECK.due("the freed chunk comes anew", x.part(0, 1, 8, 5, 0, 0), 1);
        CHECK.due("slotOf 5", x.slotOf(8, 5), 1);
    }
}
