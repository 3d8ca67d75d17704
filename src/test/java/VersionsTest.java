/** Promises 4 (complete), 6 (delete), 10 (latest), 11 (size) and 12 (byteAt). */
public final class VersionsTest {
    private static final Check CHECK = new Check("VersionsTest");

    public static void main(String[] args) {
        completeJoinsThePartsByNumber();
        completeWithoutParts();
        completeRefusesOthers();
        completeGivesFortyVersions();
        completeAndThePower();
        deleteAndItsAnswers();
        deleteAndThePower();
        latestIsTheGreatestThatLives();
        sizeAndByteAt();
        tellingWhileDown();
        CHECK.end();
    }

    private static void completeJoinsThePartsByNumber() {
        BlobStore x = new BlobStore();
        x.begin(0, 0);
        x.begin(2, 5);
        x.part(1, 6, 3, 0xC1C2C30000000000L, 0, 0);
        x.part(1, 2, 9, 0xA1A2A3A4A5A6A7A8L, 0xA900000000000000L, 0);
        x.part(1, 4, 0, 0, 0, 0);
        x.part(1, 5, 1, 0xB100000000000000L, 0, 0);
        CHECK.due("complete(1)", x.complete(1), 1);
        int[] want = {0xA1, 0xA2, 0xA3, 0xA4, 0xA5, 0xA6, 0xA7, 0xA8, 0xA9, 0xB1, 0xC1, 0xC2, 0xC3};
        CHECK.due("size(1)", x.size(1), want.length);
        for (int i = 0; i < want.length; i++) {
            CHECK.due("byteAt(1, " + i + ")", x.byteAt(1, i), want[i]);
        }
        CHECK.due("latest(2, 5)", x.latest(2, 5), 1);
        CHECK.due("latest(0, 0)", x.latest(0, 0), 0);
        CHECK.due("open sessions", x.state(1), 1);
        CHECK.due("needed: once, in the version alone", x.needed(0), 1);
        CHECK.due("writes: 2, 2, 3, 1, 2, and one for version and end", x.state(4), 11);
        CHECK.dueThrow("complete(1) again", Check.ARGUMENT, () -> x.complete(1));
        CHECK.due("complete(0)", x.complete(0), 2);
    }

    private static void completeWithoutParts() {
        BlobStore x = Stores.withSession();
        CHECK.due("complete", x.complete(0), 1);
        CHECK.due("size(1)", x.size(1), 0);
        CHECK.due("byteAt(1, 0)", x.byteAt(1, 0), -1);
        CHECK.due("latest(0, 0)", x.latest(0, 0), 1);
        CHECK.due("versions that live", x.state(2), 1);
    }

    private static void completeRefusesOthers() {
        BlobStore x = Stores.withSession();
        x.cutAfter(0);
        int[] others = {-1, 1, 4, 5, Integer.MIN_VALUE, Integer.MAX_VALUE};
        for (int other : others) {
            CHECK.dueThrow("complete(" + other + ")", Check.ARGUMENT, () -> x.complete(other));
        }
        CHECK.due("versions ever", x.state(3), 0);
        CHECK.due("down", x.state(5), 0);
        Stores.down(x);
        CHECK.dueThrow("complete(5), down", Check.STATE, () -> x.complete(5));
        CHECK.dueThrow("complete(0), down", Check.STATE, () -> x.complete(0));
        CHECK.due("versions ever", x.state(3), 0);
    }

    private static void completeGivesFortyVersions() {
        BlobStore x = new BlobStore();
        for (int i = 1; i <= 40; i++) {
            CHECK.due("version", Stores.version(x, i % 4, i % 8, i), i);
        }
        CHECK.due("delete(40)", x.delete(40), true);
        CHECK.due("delete(1)", x.delete(1), true);
        x.begin(1, 1);
        int writes = x.state(4);
        x.cutAfter(0);
        CHECK.dueThrow("a version behind the 40th", Check.STATE, () -> x.complete(0));
        CHECK.dueThrow("a version behind the 40th, no session", Check.STATE, () -> x.complete(4));
        CHECK.due("open sessions", x.state(1), 1);
        CHECK.due("versions that live", x.state(2), 38);
        CHECK.due("versions ever", x.state(3), 40);
        CHECK.due("writes", x.state(4), writes);
        CHECK.due("down", x.state(5), 0);
        CHECK.due("byteAt(39, 7)", x.byteAt(39, 7), 39);
        CHECK.due("state(7)", x.state(7), 0);
        CHECK.due("needed(38)", x.needed(38), 1);
        CHECK.due("needed(39)", x.needed(39), 0);
        CHECK.due("latest(0, 0)", x.latest(0, 0), 32);
    }

    private static void completeAndThePower() {
        BlobStore x = Stores.withSession();
        x.part(0, 1, 8, 5, 0, 0);
        x.cutAfter(0);
        CHECK.dueThrow("complete, cut", Check.POWER, () -> x.complete(0));
        CHECK.due("versions ever", x.state(3), 0);
        CHECK.due("versions that live", x.state(2), 0);
        CHECK.due("open sessions", x.state(1), 1);
        CHECK.due("latest", x.latest(0, 0), 0);
        CHECK.due("needed(0)", x.needed(0), 1);
        CHECK.due("writes", x.state(4), 3);
        CHECK.due("state(6)", x.state(6), -1);
        x.recover();
        CHECK.due("complete, recovered", x.complete(0), 1);
        CHECK.due("size(1)", x.size(1), 8);
    }

    private static void deleteAndItsAnswers() {
        BlobStore x = Stores.withVersion(7);
        Stores.version(x, 1, 1, 7);
        CHECK.due("delete(1)", x.delete(1), true);
        CHECK.due("versions that live", x.state(2), 1);
        CHECK.due("versions ever", x.state(3), 2);
        CHECK.due("size(1)", x.size(1), -1);
        CHECK.due("byteAt(1, 0)", x.byteAt(1, 0), -1);
        CHECK.due("its slot stays", x.state(0), 1);
        CHECK.due("needed(0)", x.needed(0), 1);
        int writes = x.state(4);
        x.cutAfter(0);
        int[] others = {1, 0, -1, 3, 40, 41, Integer.MIN_VALUE, Integer.MAX_VALUE};
        for (int other : others) {
            CHECK.due("delete(" + other + ")", x.delete(other), false);
        }
        CHECK.due("writes", x.state(4), writes);
        CHECK.due("down", x.state(5), 0);
        CHECK.dueThrow("delete(2), cut", Check.POWER, () -> x.delete(2));
        x.recover();
        CHECK.due("delete(2)", x.delete(2), true);
        CHECK.due("writes", x.state(4), writes + 1);
        CHECK.due("the next version's number is new", Stores.version(x, 0, 0, 7), 3);
    }

    private static void deleteAndThePower() {
        BlobStore x = Stores.withVersion(7);
        x.cutAfter(0);
        CHECK.dueThrow("delete(1), cut", Check.POWER, () -> x.delete(1));
        CHECK.due("size(1)", x.size(1), 8);
        CHECK.due("needed(0)", x.needed(0), 1);
        CHECK.dueThrow("delete(1), down", Check.STATE, () -> x.delete(1));
        CHECK.dueThrow("delete(9), down", Check.STATE, () -> x.delete(9));
    }

    private static void latestIsTheGreatestThatLives() {
        BlobStore x = new BlobStore();
        CHECK.due("latest(0, 0), none", x.latest(0, 0), 0);
        Stores.version(x, 3, 7, 1);
        Stores.version(x, 3, 7, 2);
        Stores.version(x, 3, 6, 3);
        Stores.version(x, 2, 7, 4);
        Stores.version(x, 3, 7, 5);
        CHECK.due("latest(3, 7)", x.latest(3, 7), 5);
        CHECK.due("latest(3, 6)", x.latest(3, 6), 3);
        CHECK.due("latest(2, 7)", x.latest(2, 7), 4);
        CHECK.due("latest(7, 3)", x.latest(7, 3), 0);
        CHECK.due("latest(0, 0)", x.latest(0, 0), 0);
        x.delete(5);
        CHECK.due("latest(3, 7)", x.latest(3, 7), 2);
        x.delete(1);
        CHECK.due("latest(3, 7)", x.latest(3, 7), 2);
        x.delete(2);
        CHECK.due("latest(3, 7)", x.latest(3, 7), 0);
        int[][] others = {{-1, 0}, {4, 0}, {0, -1}, {0, 8}, {Integer.MIN_VALUE, Integer.MAX_VALUE}};
        for (int[] other : others) {
            CHECK.due("latest(" + other[0] + ", " + other[1] + ")", x.latest(other[0], other[1]), 0);
        }
    }

    private static void sizeAndByteAt() {
        BlobStore x = new BlobStore();
        x.begin(0, 0);
        for (int number = 1; number <= 6; number++) {
            x.part(0, number, 24, -1, 0x7F80L, number);
        }
        x.complete(0);
        CHECK.due("size(1), the greatest there is", x.size(1), 144);
        CHECK.due("byteAt(1, 0)", x.byteAt(1, 0), 255);
        CHECK.due("byteAt(1, 14)", x.byteAt(1, 14), 127);
        CHECK.due("byteAt(1, 15)", x.byteAt(1, 15), 128);
        CHECK.due("byteAt(1, 143)", x.byteAt(1, 143), 6);
        int[] places = {-1, 144, Integer.MIN_VALUE, Integer.MAX_VALUE};
        for (int place : places) {
            CHECK.due("byteAt(1, " + place + ")", x.byteAt(1, place), -1);
        }
        int[] others = {0, -1, 2, 40, 41, Integer.MIN_VALUE, Integer.MAX_VALUE};
        for (int other : others) {
            CHECK.due("size(" + other + ")", x.size(other), -1);
            CHECK.due("byteAt(" + other + ", 0)", x.byteAt(other, 0), -1);
        }
    }

    private static void tellingWhileDown() {
        BlobStore x = Stores.withVersion(0x0900000000000000L);
        int word = x.address(0, 3);
        Stores.down(x);
        CHECK.due("latest(0, 0), down", x.latest(0, 0), 1);
        CHECK.due("size(1), down", x.size(1), 8);
        CHECK.due("size(2), down", x.size(2), -1);
        CHECK.due("byteAt(1, 0), down", x.byteAt(1, 0), 9);
        CHECK.due("needed(0), down", x.needed(0), 1);
        CHECK.due("slotOf, down", x.slotOf(8, 0x0900000000000000L), 0);
        CHECK.due("address(0, 3), down", x.address(0, 3), word);
        CHECK.due("state(5), down", x.state(5), 1);
    }
}
