/** 'What it is' and 'Terms': chunks, slots, to keep, sessions, parts, versions. */
public final class TermsTest {
    private static final Check CHECK = new Check("TermsTest");

    public static void main(String[] args) {
        CHECK.says("An object is used for at most 512 calls after it has been made", TermsTest::call512);
        CHECK.says("An object is used for at most 512 calls after it has been made", TermsTest::mostWritesIn512Calls);
        CHECK.says("A CHUNK is 1 to 8 bytes.", TermsTest::chunkOfOneByte);
        CHECK.says("A CHUNK is 1 to 8 bytes.", TermsTest::chunkOfEightBytes);
        CHECK.says("Its ADDRESS is SHA-256 (FIPS 180-4) of its bytes: eight words of 32 bits.",
                TermsTest::addressOfAbc);
        CHECK.says("There are SLOTS 0 to 47 for chunks", TermsTest::slotsFromFirstToLast);
        CHECK.says("each chunk is there once", TermsTest::onceInOnePart);
        CHECK.says("each chunk is there once", TermsTest::onceInAllPartsSessionsAndVersions);
        CHECK.says("each chunk is there once", TermsTest::onceThoughNobodyNeedsIt);
        CHECK.says("(chunks are alike when their addresses are)", TermsTest::otherLengthsAreNotAlike);
        CHECK.says("(chunks are alike when their addresses are)", TermsTest::bytesBehindTheEndDoNotMatter);
        CHECK.says("they are cut into chunks of 8 bytes", TermsTest::fullChunks);
        CHECK.says("the last one may have fewer", TermsTest::lastChunkHasFewer);
        CHECK.says("no bytes: no chunk", TermsTest::noBytesNoChunk);
        CHECK.says("In order, each chunk that no slot has", TermsTest::inOrder);
        CHECK.says("comes to the free slot with the least number", TermsTest::leastFreeSlot);
        CHECK.says("comes to the free slot with the least number", TermsTest::leastFreeSlotAtTheEnds);
        CHECK.says("SESSIONS 0 to 4 are OPEN or not", TermsTest::sessionsAreApart);
        CHECK.says("an open one has a bucket (0 to 3), a key (0 to 7)", TermsTest::bucketsAndKeysAreApart);
        CHECK.says("and PARTS by numbers 1 to 6, each a row of slots", TermsTest::partsAreApart);
        CHECK.says("VERSIONS have numbers from 1 on", TermsTest::firstVersionIsOne);
        CHECK.says("given once", TermsTest::deletedNumberIsNotGivenAgain);
        CHECK.says("given once", TermsTest::numberThatThePowerRefusedIsStillToBeGiven);
        CHECK.says("and LIVES until it is deleted", TermsTest::versionOutlivesAllElse);
        CHECK.end();
    }

    private static void call512() {
        BlobStore x = new BlobStore();
        for (int pair = 0; pair < 255; pair++) {
            x.begin(3, 7);
            x.abort(0);
        }
        CHECK.due("call 511, begin(0, 0)", x.begin(0, 0), 0);
        CHECK.due("call 512, part(0, 6, 24, 1, 2, 3)", x.part(0, 6, 24, 1, 2, 3), 3);
    }

    private static void mostWritesIn512Calls() {
        BlobStore x = Stores.withSession();
        int writes = 1;
        // 17 + 1 calls a round: 16 parts of three new chunks, one of none, and a collect() of all 48.
        for (int round = 0; round < 28; round++) {
            for (int i = 0; i < 16; i++) {
                CHECK.due("part of three new chunks", x.part(0, 1, 24, 3 * i, 3 * i + 1, 3 * i + 2), 3);
            }
            x.part(0, 1, 0, 0, 0, 0);
            CHECK.due("collect()", x.collect(), 48);
            writes += 16 * 4 + 1 + 48;
        }
        CHECK.due("state(4) as call 506", x.state(4), writes);
        CHECK.due("state(0) as call 507", x.state(0), 0);
    }

    private static void chunkOfOneByte() {
        BlobStore x = Stores.withSession();
        CHECK.due("part of 1 byte", x.part(0, 1, 1, 0xA100000000000000L, 0, 0), 1);
        CHECK.due("slotOf(1, ..)", x.slotOf(1, 0xA100000000000000L), 0);
        x.complete(0);
        CHECK.due("size(1)", x.size(1), 1);
        CHECK.due("byteAt(1, 0)", x.byteAt(1, 0), 0xA1);
    }

    private static void chunkOfEightBytes() {
        BlobStore x = Stores.withSession();
        CHECK.due("part of 8 bytes", x.part(0, 1, 8, 0xA1A2A3A4A5A6A7A8L, 0, 0), 1);
        CHECK.due("slotOf(8, ..)", x.slotOf(8, 0xA1A2A3A4A5A6A7A8L), 0);
        x.complete(0);
        CHECK.due("size(1)", x.size(1), 8);
        CHECK.due("byteAt(1, 7)", x.byteAt(1, 7), 0xA8);
    }

    private static void addressOfAbc() {
        int[] want = {0xba7816bf, 0x8f01cfea, 0x414140de, 0x5dae2223, 0xb00361a3, 0x96177a9c, 0xb410ff61, 0xf20015ad};
        BlobStore x = Stores.withSession();
        x.part(0, 1, 3, 0x6162630000000000L, 0, 0);
        for (int w = 0; w < 8; w++) {
            CHECK.due("address(0, " + w + ") of abc", x.address(0, w), want[w]);
        }
    }

    private static void slotsFromFirstToLast() {
        BlobStore x = Stores.withSession();
        for (int i = 0; i < 48; i++) {
            CHECK.due("part of chunk " + i, x.part(0, 1, 8, 1000 + i, 0, 0), 1);
            CHECK.due("slotOf chunk " + i, x.slotOf(8, 1000 + i), i);
        }
        CHECK.dueThrow("a 49th chunk", Check.INDEX, () -> x.part(0, 1, 8, 1048, 0, 0));
        CHECK.due("state(0)", x.state(0), 48);
    }

    private static void onceInOnePart() {
        BlobStore x = Stores.withSession();
        CHECK.due("three alike", x.part(0, 1, 24, 7, 7, 7), 1);
        CHECK.due("first and last alike", x.part(0, 2, 24, 8, 9, 8), 2);
        CHECK.due("last two alike, the first there", x.part(0, 3, 24, 7, 5, 5), 1);
        CHECK.due("state(0)", x.state(0), 4);
        x.complete(0);
        long[] want = {7, 7, 7, 8, 9, 8, 7, 5, 5};
        for (int i = 0; i < want.length; i++) {
            CHECK.due("last byte of chunk " + i, x.byteAt(1, 8 * i + 7), want[i]);
        }
    }

    private static void onceInAllPartsSessionsAndVersions() {
        BlobStore x = Stores.withSessions(2);
        CHECK.due("its first part", x.part(0, 1, 8, 7, 0, 0), 1);
        CHECK.due("another part", x.part(0, 6, 8, 7, 0, 0), 0);
        CHECK.due("another session", x.part(1, 1, 8, 7, 0, 0), 0);
        x.complete(0);
        CHECK.due("beside a version", x.part(1, 2, 8, 7, 0, 0), 0);
        CHECK.due("state(0)", x.state(0), 1);
    }

    private static void onceThoughNobodyNeedsIt() {
        BlobStore x = Stores.withVersion(7);
        x.delete(1);
        x.begin(0, 0);
        CHECK.due("a chunk that stayed", x.part(0, 1, 8, 7, 0, 0), 0);
        CHECK.due("needed(0)", x.needed(0), 1);
    }

    private static void otherLengthsAreNotAlike() {
        BlobStore x = Stores.withSession();
        for (int n = 1; n <= 8; n++) {
            CHECK.due(n + " bytes of 0", x.part(0, 1, n, 0, 0, 0), 1);
        }
        for (int n = 1; n <= 8; n++) {
            CHECK.due("slotOf(" + n + ", 0)", x.slotOf(n, 0), n - 1);
        }
    }

    private static void bytesBehindTheEndDoNotMatter() {
        BlobStore x = Stores.withSession();
        CHECK.due("3 bytes", x.part(0, 1, 3, 0x0102030405060708L, 9, 9), 1);
        CHECK.due("the same 3 bytes before zeros", x.part(0, 2, 3, 0x0102030000000000L, -1, -1), 0);
        CHECK.due("the same 3 bytes before ones", x.part(0, 3, 3, 0x010203FFFFFFFFFFL, 0, 0), 0);
        CHECK.due("needed(0)", x.needed(0), 3);
    }

    private static void fullChunks() {
        for (int chunks = 1; chunks <= 3; chunks++) {
            BlobStore x = Stores.withSession();
            CHECK.due("part of " + 8 * chunks, x.part(0, 1, 8 * chunks, 1, 2, 3), chunks);
            for (int i = 0; i < chunks; i++) {
                CHECK.due("slotOf(8, " + (i + 1) + ")", x.slotOf(8, i + 1), i);
            }
        }
    }

    private static void lastChunkHasFewer() {
        long[] words = {0xF1E2D3C4B5A69788L, 0x0123456789ABCDEFL, 0x8000000000000001L};
        for (int n = 1; n <= 23; n++) {
            if (n % 8 != 0) {
                BlobStore x = Stores.withSession();
                int last = n / 8;
                CHECK.due("part of " + n, x.part(0, 1, n, words[0], words[1], words[2]), last + 1);
                CHECK.due("slotOf the last chunk of " + n, x.slotOf(n % 8, words[last]), last);
                CHECK.due("slotOf a full last chunk of " + n, x.slotOf(8, words[last]), -1);
            }
        }
    }

    private static void noBytesNoChunk() {
        BlobStore x = Stores.withSession();
        CHECK.due("part of 0 bytes", x.part(0, 1, 0, 1, 2, 3), 0);
        CHECK.due("state(0)", x.state(0), 0);
        CHECK.due("needed(0)", x.needed(0), -1);
    }

    private static void inOrder() {
        BlobStore x = Stores.withSession();
        x.part(0, 1, 24, 3, 1, 2);
        CHECK.due("slotOf the first", x.slotOf(8, 3), 0);
        CHECK.due("slotOf the second", x.slotOf(8, 1), 1);
        CHECK.due("slotOf the third", x.slotOf(8, 2), 2);
        x.part(0, 2, 24, 5, 3, 4);
        CHECK.due("slotOf the first, one there behind it", x.slotOf(8, 5), 3);
        CHECK.due("slotOf the third", x.slotOf(8, 4), 4);
        x.cutAfter(1);
        CHECK.dueThrow("part of three, cut behind one", Check.POWER, () -> x.part(0, 3, 24, 8, 7, 6));
        CHECK.due("slotOf the first, come before the cut", x.slotOf(8, 8), 5);
        CHECK.due("slotOf the second, not come", x.slotOf(8, 7), -1);
        CHECK.due("slotOf the third, not come", x.slotOf(8, 6), -1);
    }

    private static void leastFreeSlot() {
        BlobStore x = Stores.withGaps(8, 2, 3, 6);
        CHECK.due("two new beside one that is there", x.part(0, 1, 24, 51, 1004, 52), 2);
        CHECK.due("slotOf 51", x.slotOf(8, 51), 2);
        CHECK.due("slotOf 52", x.slotOf(8, 52), 3);
        CHECK.due("two more", x.part(0, 2, 16, 53, 54, 0), 2);
        CHECK.due("slotOf 53", x.slotOf(8, 53), 6);
        CHECK.due("slotOf 54", x.slotOf(8, 54), 8);
    }

    private static void leastFreeSlotAtTheEnds() {
        BlobStore x = Stores.withGaps(48, 0, 47);
        CHECK.due("two new, slots 0 and 47 free", x.part(0, 1, 16, 51, 52, 0), 2);
        CHECK.due("slotOf 51", x.slotOf(8, 51), 0);
        CHECK.due("slotOf 52", x.slotOf(8, 52), 47);
    }

    private static void sessionsAreApart() {
        BlobStore x = Stores.withSessions(5);
        for (int session = 0; session < 5; session++) {
            x.part(session, 1, 1, (long) session << 56, 0, 0);
        }
        x.abort(2);
        CHECK.dueThrow("part of the one that is not open", Check.ARGUMENT, () -> x.part(2, 1, 0, 0, 0, 0));
        int[] open = {4, 3, 1, 0};
        for (int i = 0; i < open.length; i++) {
            CHECK.due("complete(" + open[i] + ")", x.complete(open[i]), i + 1);
            CHECK.due("its byte", x.byteAt(i + 1, 0), open[i]);
        }
    }

    private static void bucketsAndKeysAreApart() {
        BlobStore x = Stores.withEmptyVersions(32);
        for (int place = 0; place < 32; place++) {
            CHECK.due("latest(" + place / 8 + ", " + place % 8 + ")", x.latest(place / 8, place % 8), place + 1);
        }
    }

    private static void partsAreApart() {
        BlobStore x = Stores.withSession();
        for (int number = 6; number >= 1; number--) {
            x.part(0, number, 1, (long) number << 56, 0, 0);
        }
        x.complete(0);
        CHECK.due("size(1)", x.size(1), 6);
        for (int number = 1; number <= 6; number++) {
            CHECK.due("byteAt(1, " + (number - 1) + ")", x.byteAt(1, number - 1), number);
        }
    }

    private static void firstVersionIsOne() {
        CHECK.due("the first complete(0)", Stores.withSession().complete(0), 1);
    }

    private static void deletedNumberIsNotGivenAgain() {
        BlobStore x = Stores.withEmptyVersions(2);
        x.delete(2);
        x.delete(1);
        x.collect();
        CHECK.due("complete behind two deleted ones", x.complete(x.begin(0, 0)), 3);
    }

    private static void numberThatThePowerRefusedIsStillToBeGiven() {
        BlobStore x = Stores.cut(Stores.withSession());
        CHECK.dueThrow("complete(0), cut", Check.POWER, () -> x.complete(0));
        x.recover();
        CHECK.due("complete(0), recovered", x.complete(0), 1);
    }

    private static void versionOutlivesAllElse() {
        BlobStore x = Stores.withVersion(0x0900000000000000L);
        Stores.version(x, 0, 0, 7);
        x.delete(2);
        x.collect();
        x.begin(0, 0);
        x.part(0, 1, 8, 8, 0, 0);
        x.abort(0);
        x.collect();
        Stores.down(x).recover();
        CHECK.due("size(1)", x.size(1), 8);
        CHECK.due("byteAt(1, 0)", x.byteAt(1, 0), 9);
        x.delete(1);
        CHECK.due("size(1), deleted", x.size(1), -1);
    }
}
