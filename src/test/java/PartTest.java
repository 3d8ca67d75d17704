/** Promise 3: part. */
public final class PartTest {
    private static final Check CHECK = new Check("PartTest");

    public static void main(String[] args) {
        CHECK.says("A part of n bytes (0 to 24), which are KEPT", PartTest::everyLength);
        CHECK.says("the bytes of a, then of b, then of c, the highest of each first", PartTest::orderOfTheBytes);
        CHECK.says("How many chunks came to slots", PartTest::howManyCame);
        CHECK.says("0 for n 0", PartTest::zeroForNoBytes);
        CHECK.says("0 for n 0, a part all the same", PartTest::noBytesAreAPartAllTheSame);
        CHECK.says("in place of one with its number", PartTest::inPlaceOfOneWithItsNumber);
        CHECK.says("in place of one with its number", PartTest::noBytesInPlaceOfOne);
        CHECK.says("whose chunks stay", PartTest::chunksOfTheOneBeforeStay);
        CHECK.says("IllegalStateException: DOWN.", PartTest::down);
        CHECK.says("no such session is open", PartTest::noSuchSession);
        CHECK.says("number (1 to 6)", PartTest::everyNumber);
        CHECK.says("number (1 to 6) or n is not so", PartTest::noSuchNumber);
        CHECK.says("number (1 to 6) or n is not so", PartTest::noSuchCountOfBytes);
        CHECK.says("there are not as many free slots as chunks that are not there", PartTest::oneSlotTooFew);
        CHECK.says("there are not as many free slots as chunks that are not there", PartTest::justEnoughSlots);
        CHECK.says("there are not as many free slots as chunks that are not there", PartTest::noSlotIsWanted);
        CHECK.says("chunks alike counting once", PartTest::alikeCountOnce);
        CHECK.says("nothing is done", PartTest::lackOfSlotsDoesNothing);
        CHECK.says("UnsupportedOperationException: the power goes (what was written before stays).",
                PartTest::powerGoesAtEachWrite);
        CHECK.says("what was written before stays", PartTest::writtenChunksAreThereBehindRecover);
        CHECK.says("The first of these", PartTest::downComesFirst);
        CHECK.says("The first of these", PartTest::argumentsComeBeforeSlotsAndPower);
        CHECK.says("The first of these", PartTest::slotsComeBeforePower);
        CHECK.end();
    }

    private static void everyLength() {
        for (int n = 0; n <= 24; n++) {
            BlobStore x = Stores.withSession();
            CHECK.due("part of " + n, x.part(0, 1, n, 1, 2, 3), (n + 7) / 8);
            CHECK.due("state(0) for " + n, x.state(0), (n + 7) / 8);
            x.complete(0);
            CHECK.due("size(1) for " + n, x.size(1), n);
        }
    }

    private static void orderOfTheBytes() {
        BlobStore x = Stores.withSession();
        x.part(0, 1, 24, 0x0102030405060708L, 0x090A0B0C0D0E0F10L, 0x1112131415161718L);
        x.complete(0);
        for (int i = 0; i < 24; i++) {
            CHECK.due("byteAt(1, " + i + ")", x.byteAt(1, i), i + 1);
        }
        BlobStore y = Stores.withSession();
        y.part(0, 1, 17, -1, 0, -1);
        y.complete(0);
        for (int i = 0; i < 17; i++) {
            CHECK.due("byteAt(1, " + i + ") of 17", y.byteAt(1, i), i / 8 == 1 ? 0 : 255);
        }
    }

    private static void howManyCame() {
        BlobStore x = Stores.withSession();
        CHECK.due("three new", x.part(0, 1, 24, 1, 2, 3), 3);
        CHECK.due("two new", x.part(0, 2, 24, 4, 2, 5), 2);
        CHECK.due("one new", x.part(0, 3, 24, 1, 5, 6), 1);
        CHECK.due("none new", x.part(0, 4, 24, 6, 5, 4), 0);
        CHECK.due("none new, in place of itself", x.part(0, 4, 24, 6, 5, 4), 0);
        CHECK.due("one new, thrice", x.part(0, 5, 24, 7, 7, 7), 1);
    }

    private static void zeroForNoBytes() {
        BlobStore x = Stores.withSession();
        CHECK.due("part(0, 1, 0, 1, 2, 3)", x.part(0, 1, 0, 1, 2, 3), 0);
        CHECK.due("state(0)", x.state(0), 0);
    }

    private static void noBytesAreAPartAllTheSame() {
        BlobStore x = Stores.withSession();
        x.part(0, 1, 0, 1, 2, 3);
        CHECK.due("state(4): its write", x.state(4), 2);
        Twins.cut(CHECK, "part(0, 1, 0, 1, 2, 3)", Stores::withSession, y -> y.part(0, 1, 0, 1, 2, 3));
    }

    private static void inPlaceOfOneWithItsNumber() {
        BlobStore x = Stores.withSession();
        x.part(0, 3, 24, 1, 2, 3);
        x.part(0, 4, 8, 4, 0, 0);
        CHECK.due("part 3 again", x.part(0, 3, 8, 2, 0, 0), 0);
        int[] want = {0, 1, 0, 1};
        for (int slot = 0; slot < want.length; slot++) {
            CHECK.due("needed(" + slot + ")", x.needed(slot), want[slot]);
        }
        x.complete(0);
        CHECK.due("size(1)", x.size(1), 16);
        CHECK.due("byteAt(1, 7)", x.byteAt(1, 7), 2);
        CHECK.due("byteAt(1, 15)", x.byteAt(1, 15), 4);
    }

    private static void noBytesInPlaceOfOne() {
        BlobStore x = Stores.withSession();
        x.part(0, 1, 24, 1, 2, 3);
        x.part(0, 1, 0, 0, 0, 0);
        CHECK.due("needed(0)", x.needed(0), 0);
        x.complete(0);
        CHECK.due("size(1)", x.size(1), 0);
    }

    private static void chunksOfTheOneBeforeStay() {
        BlobStore x = Stores.withSession();
        x.part(0, 1, 24, 1, 2, 3);
        x.part(0, 1, 0, 0, 0, 0);
        CHECK.due("state(0), no bytes in its place", x.state(0), 3);
        CHECK.due("slotOf(8, 3)", x.slotOf(8, 3), 2);
        x.part(0, 1, 8, 9, 0, 0);
        CHECK.due("state(0), another part in its place", x.state(0), 4);
        CHECK.due("slotOf(8, 9)", x.slotOf(8, 9), 3);
    }

    private static void down() {
        Twins.refused(CHECK, "part(0, 1, 24, 7, 8, 9), down", Check.STATE, () -> Stores.down(Stores.busy()),
                x -> x.part(0, 1, 24, 7, 8, 9));
    }

    private static void noSuchSession() {
        for (int session : new int[] {-1, 1, 4, 5, Stores.LEAST, Stores.MOST}) {
            Twins.refused(CHECK, "part(" + session + ", 1, 8, 9, 0, 0)", Check.ARGUMENT, Stores::busy,
                    x -> x.part(session, 1, 8, 9, 0, 0));
            Twins.refused(CHECK, "part(" + session + ", 1, 0, 0, 0, 0)", Check.ARGUMENT, Stores::busy,
                    x -> x.part(session, 1, 0, 0, 0, 0));
        }
        BlobStore x = Stores.withSessions(5);
        x.complete(0);
        x.abort(4);
        CHECK.dueThrow("part of a completed session", Check.ARGUMENT, () -> x.part(0, 1, 8, 9, 0, 0));
        CHECK.dueThrow("part of an aborted session", Check.ARGUMENT, () -> x.part(4, 1, 8, 9, 0, 0));
    }

    private static void everyNumber() {
        for (int number = 1; number <= 6; number++) {
            BlobStore x = Stores.withSession();
            CHECK.due("part(0, " + number + ", 8, 9, 0, 0)", x.part(0, number, 8, 9, 0, 0), 1);
            CHECK.due("needed(0)", x.needed(0), 1);
        }
    }

    private static void noSuchNumber() {
        for (int number : new int[] {0, 7, -1, Stores.LEAST, Stores.MOST}) {
            Twins.refused(CHECK, "part(0, " + number + ", 8, 9, 0, 0)", Check.ARGUMENT, Stores::busy,
                    x -> x.part(0, number, 8, 9, 0, 0));
        }
    }

    private static void noSuchCountOfBytes() {
        // The count behind 25 is 8 bytes when it is counted in bits of 32.
        for (int n : new int[] {-1, 25, 8 + (1 << 29), Stores.LEAST, Stores.MOST, Stores.MOST - 6}) {
            Twins.refused(CHECK, "part(0, 1, " + n + ", 7, 8, 9)", Check.ARGUMENT, Stores::busy,
                    x -> x.part(0, 1, n, 7, 8, 9));
        }
    }

    private static void oneSlotTooFew() {
        BlobStore x = Stores.withChunks(46);
        CHECK.dueThrow("three new, two free", Check.INDEX, () -> x.part(0, 2, 24, 1, 2, 3));
        BlobStore y = Stores.withChunks(47);
        CHECK.dueThrow("two new, one free", Check.INDEX, () -> y.part(0, 2, 16, 1, 2, 0));
        CHECK.dueThrow("two new behind one there, one free", Check.INDEX, () -> y.part(0, 2, 24, 1000, 1, 2));
        CHECK.dueThrow("two new before one there, one free", Check.INDEX, () -> y.part(0, 2, 24, 1, 2, 1000));
        BlobStore z = Stores.withChunks(48);
        CHECK.dueThrow("one new, none free", Check.INDEX, () -> z.part(0, 2, 1, 1, 0, 0));
        CHECK.dueThrow("one new behind two there, none free", Check.INDEX, () -> z.part(0, 2, 24, 1000, 1047, 1));
    }

    private static void justEnoughSlots() {
        CHECK.due("three new, three free", Stores.withChunks(45).part(0, 2, 24, 1, 2, 3), 3);
        CHECK.due("two new, two free", Stores.withChunks(46).part(0, 2, 16, 1, 2, 0), 2);
        CHECK.due("two new round one there, two free", Stores.withChunks(46).part(0, 2, 24, 1, 1000, 2), 2);
        CHECK.due("one new, one free", Stores.withChunks(47).part(0, 2, 8, 1, 0, 0), 1);
        CHECK.due("one new behind two there, one free", Stores.withChunks(47).part(0, 2, 24, 1000, 1046, 1), 1);
        CHECK.due("one new, slot 5 free", Stores.withGaps(48, 5).part(0, 2, 8, 1, 0, 0), 1);
    }

    private static void noSlotIsWanted() {
        BlobStore x = Stores.withChunks(48);
        CHECK.due("three there, none free", x.part(0, 2, 24, 1000, 1030, 1047), 0);
        CHECK.due("no bytes, none free", x.part(0, 2, 0, 1, 2, 3), 0);
    }

    private static void alikeCountOnce() {
        CHECK.due("three alike, one free", Stores.withChunks(47).part(0, 2, 24, 1, 1, 1), 1);
        CHECK.due("first and last alike, two free", Stores.withChunks(46).part(0, 2, 24, 1, 2, 1), 2);
        CHECK.due("last two alike, two free", Stores.withChunks(46).part(0, 2, 24, 1, 2, 2), 2);
        CHECK.due("two alike behind one there, one free", Stores.withChunks(47).part(0, 2, 24, 1000, 1, 1), 1);
        CHECK.dueThrow("first and last alike, one free", Check.INDEX,
                () -> Stores.withChunks(47).part(0, 2, 24, 1, 2, 1));
        CHECK.dueThrow("three alike, none free", Check.INDEX, () -> Stores.withChunks(48).part(0, 2, 24, 1, 1, 1));
        // The 8 bytes of 1 and their first byte alone are two chunks.
        CHECK.dueThrow("two lengths of the same bytes, one free", Check.INDEX,
                () -> Stores.withChunks(47).part(0, 2, 9, 1, 1, 0));
    }

    private static void lackOfSlotsDoesNothing() {
        Twins.refused(CHECK, "part of two new, one free", Check.INDEX, () -> Stores.withChunks(47),
                x -> x.part(0, 1, 16, 1, 2, 0));
        Twins.refused(CHECK, "part of one new between two there, none free", Check.INDEX, () -> Stores.withChunks(48),
                x -> x.part(0, 1, 24, 1000, 1, 1001));
        Twins.refused(CHECK, "part of two new in place of one, one free", Check.INDEX, () -> {
            BlobStore x = Stores.withChunks(47);
            x.part(0, 4, 8, 1000, 0, 0);
            return x;
        }, x -> x.part(0, 4, 16, 1, 2, 0));
    }

    private static void powerGoesAtEachWrite() {
        for (int n = 0; n < 4; n++) {
            BlobStore x = Stores.withSession();
            x.part(0, 1, 8, 9, 0, 0);
            x.cutAfter(n);
            String cut = ", cut behind " + n;
            CHECK.dueThrow("part" + cut, Check.POWER, () -> x.part(0, 1, 24, 1, 2, 3));
            CHECK.due("state(5)" + cut, x.state(5), 1);
            CHECK.due("state(4)" + cut, x.state(4), 3 + n);
            CHECK.due("state(0)" + cut, x.state(0), 1 + n);
            CHECK.due("needed(0), the part before stays" + cut, x.needed(0), 1);
            for (int i = 1; i <= 3; i++) {
                CHECK.due("slotOf(8, " + i + ")" + cut, x.slotOf(8, i), i <= n ? i : -1);
                CHECK.due("needed(" + i + ")" + cut, x.needed(i), i <= n ? 0 : -1);
            }
        }
        BlobStore x = Stores.withSession();
        x.cutAfter(4);
        CHECK.due("part, cut behind its four writes", x.part(0, 1, 24, 1, 2, 3), 3);
        CHECK.due("state(5)", x.state(5), 0);
    }

    private static void writtenChunksAreThereBehindRecover() {
        for (int n = 0; n < 4; n++) {
            BlobStore x = Stores.withSession();
            x.cutAfter(n);
            CHECK.dueThrow("part, cut behind " + n, Check.POWER, () -> x.part(0, 1, 24, 1, 2, 3));
            x.recover();
            CHECK.due("the same part, recovered", x.part(0, 1, 24, 1, 2, 3), 3 - n);
            BlobStore y = Stores.withSession();
            y.cutAfter(n);
            CHECK.dueThrow("part, cut behind " + n, Check.POWER, () -> y.part(0, 1, 24, 1, 2, 3));
            y.recover();
            CHECK.due("collect(), recovered", y.collect(), n);
        }
    }

    private static void downComesFirst() {
        Twins.refused(CHECK, "part(9, 9, 99, ..), down", Check.STATE, () -> Stores.down(Stores.busy()),
                x -> x.part(9, 9, 99, 1, 2, 3));
        Twins.refused(CHECK, "part, none free, down", Check.STATE, () -> Stores.down(Stores.withChunks(48)),
                x -> x.part(0, 1, 8, 1, 0, 0));
    }

    private static void argumentsComeBeforeSlotsAndPower() {
        int[][] others = {{1, 1, 8}, {0, 7, 8}, {0, 0, 8}, {0, 1, 25}};
        for (int[] other : others) {
            String call = "part(" + other[0] + ", " + other[1] + ", " + other[2] + ", 1, 2, 3)";
            Twins.refused(CHECK, call + ", none free", Check.ARGUMENT, () -> Stores.withChunks(48),
                    x -> x.part(other[0], other[1], other[2], 1, 2, 3));
            Twins.refused(CHECK, call + ", cut", Check.ARGUMENT, () -> Stores.cut(Stores.withSession()),
                    x -> x.part(other[0], other[1], other[2], 1, 2, 3));
        }
        Twins.refused(CHECK, "part(0, 1, -1, 1, 2, 3), cut", Check.ARGUMENT, () -> Stores.cut(Stores.withSession()),
                x -> x.part(0, 1, -1, 1, 2, 3));
    }

    private static void slotsComeBeforePower() {
        Twins.refused(CHECK, "part of one new, none free, cut", Check.INDEX,
                () -> Stores.cut(Stores.withChunks(48)), x -> x.part(0, 1, 8, 1, 0, 0));
        Twins.refused(CHECK, "part of two new, one free, cut", Check.INDEX,
                () -> Stores.cut(Stores.withChunks(47)), x -> x.part(0, 1, 16, 1, 2, 0));
    }
}
