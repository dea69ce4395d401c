/** Promises 12 to 18: segments. */
public final class SegmentsTest {
    private static final Check CHECK = new Check("SegmentsTest");

    private SegmentsTest() {
    }

    public static void main(String[] args) {
        promise12Flush();
        promise12FlushMerges();
        promise12FlushOfGoneOnes();
        promise13Compact();
        promise13CompactTiers();
        promise14Segments();
        promise15TierOf();
        promise16SizeOf();
        promise17Spread();
        promise18Rare();
        CHECK.end();
    }

    private static String shape(QuarryIndex x) {
        StringBuilder told = new StringBuilder();
        for (int segment = 0; segment < x.segments(); segment++) {
            told.append(x.tierOf(segment)).append(':').append(x.sizeOf(segment)).append(' ');
        }
        return told.toString().trim();
    }

    private static void promise12Flush() {
        QuarryIndex x = new QuarryIndex();
        CHECK.same("12 an empty buffer", x.flush(), 0);
        CHECK.same("12 is no segment", x.segments(), 0);
        Make.document(x, 0, 0, Make.row(5));
        x.term(5, 1);
        CHECK.same("12 nothing is found in the buffer", x.found(0), 0);
        Make.document(x, 0, 0, Make.row(5));
        x.open(0, 0);
        CHECK.same("12 how many the buffer had", x.flush(), 2);
        CHECK.same("12 one segment of tier 0", shape(x), "0:2");
        CHECK.same("12 found now", x.found(0), 2);
        CHECK.same("12 the buffer is empty", x.flush(), 0);
        CHECK.same("12 still one", shape(x), "0:2");
        CHECK.same("12 the open one stays open", x.close(), 1);
    }

    private static void promise12FlushMerges() {
        QuarryIndex x = new QuarryIndex();
        String[] due = {"0:1", "0:1 0:1", "1:3", "1:3 0:1", "1:3 0:1 0:1", "1:3 1:3", "1:3 1:3 0:1",
            "1:3 1:3 0:1 0:1", "2:9", "2:9 0:1"};
        for (int many = 0; many < due.length; many++) {
            Make.flushed(x, many);
            CHECK.same("12 flush " + (many + 1), shape(x), due[many]);
        }
        CHECK.same("12 all are found", x.stateOf(3), 2);
    }

    private static void promise12FlushOfGoneOnes() {
        QuarryIndex x = new QuarryIndex();
        for (int number = 0; number < 2; number++) {
            Make.document(x, 0, 0);
            x.remove(number);
            CHECK.same("12 one that is gone", x.flush(), 1);
        }
        CHECK.same("12 those that are gone lie there", shape(x), "0:1 0:1");
        Make.document(x, 0, 0);
        Make.document(x, 0, 0);
        x.remove(3);
        x.flush();
        CHECK.same("12 a merge leaves them out", shape(x), "1:1");
        for (int number = 4; number < 7; number++) {
            Make.flushed(x, 1);
            x.remove(number);
        }
        CHECK.same("12 gone ahead of the merge, and one behind it", shape(x), "1:1 1:1");
        QuarryIndex y = new QuarryIndex();
        Make.flushed(y, 1);
        Make.flushed(y, 1);
        y.remove(0);
        y.remove(1);
        Make.document(y, 0, 0);
        y.remove(2);
        CHECK.same("12 the buffer had one", y.flush(), 1);
        CHECK.same("12 without any it is none at all", y.segments(), 0);
        CHECK.same("12 they keep their numbers", y.documents(), 3);
    }

    private static void promise13Compact() {
        QuarryIndex x = new QuarryIndex();
        CHECK.same("13 no segments", x.compact(), 0);
        Make.flushed(x, 1);
        CHECK.same("13 one segment, none gone", x.compact(), 0);
        CHECK.same("13 it stays", shape(x), "0:1");
        Make.flushed(x, 2);
        Make.document(x, 0, 0);
        x.remove(0);
        x.remove(2);
        CHECK.same("13 how many are no more", x.compact(), 1);
        CHECK.same("13 one segment", shape(x), "0:1");
        CHECK.same("13 the buffer stays", x.flush(), 1);
        CHECK.same("13 the gone one of the buffer lies there", shape(x), "0:1 0:1");
        x.remove(1);
        CHECK.same("13 all are gone", x.compact(), 2);
        CHECK.same("13 none at all", x.segments(), 0);
        CHECK.same("13 again", x.compact(), 0);
    }

    private static void promise13CompactTiers() {
        QuarryIndex x = new QuarryIndex();
        for (int number = 0; number < 5; number++) {
            Make.flushed(x, 1);
        }
        x.remove(1);
        CHECK.same("13 before", shape(x), "1:3 0:1 0:1");
        CHECK.same("13 one is no more", x.compact(), 1);
        CHECK.same("13 the greatest tier of them", shape(x), "1:4");
        x.remove(4);
        CHECK.same("13 one segment with a gone one", x.compact(), 1);
        CHECK.same("13 its tier stays", shape(x), "1:3");
    }

    private static void promise14Segments() {
        QuarryIndex x = new QuarryIndex();
        CHECK.same("14 none", x.segments(), 0);
        Make.flushed(x, 1);
        CHECK.same("14 one", x.segments(), 1);
        Make.flushed(x, 1);
        CHECK.same("14 two", x.segments(), 2);
        Make.flushed(x, 1);
        CHECK.same("14 merged", x.segments(), 1);
    }

    private static void promise15TierOf() {
        QuarryIndex x = new QuarryIndex();
        CHECK.throwsOutOfBounds("15 none", () -> x.tierOf(0));
        for (int number = 0; number < 4; number++) {
            Make.flushed(x, 1);
        }
        CHECK.same("15 the oldest first", x.tierOf(0), 1);
        CHECK.same("15 the last one", x.tierOf(1), 0);
        CHECK.throwsOutOfBounds("15 segment 2", () -> x.tierOf(2));
        CHECK.throwsOutOfBounds("15 segment -1", () -> x.tierOf(-1));
        CHECK.throwsOutOfBounds("15 far off", () -> x.tierOf(Integer.MAX_VALUE));
    }

    private static void promise16SizeOf() {
        QuarryIndex x = new QuarryIndex();
        CHECK.throwsOutOfBounds("16 none", () -> x.sizeOf(0));
        Make.document(x, 0, 0);
        Make.document(x, 0, 0);
        x.flush();
        Make.flushed(x, 1);
        CHECK.same("16 the oldest first", x.sizeOf(0), 2);
        CHECK.same("16 the last one", x.sizeOf(1), 1);
        x.remove(0);
        CHECK.same("16 gone or not", x.sizeOf(0), 2);
        CHECK.throwsOutOfBounds("16 segment 2", () -> x.sizeOf(2));
        CHECK.throwsOutOfBounds("16 segment -1", () -> x.sizeOf(-1));
        CHECK.throwsOutOfBounds("16 far off", () -> x.sizeOf(Integer.MIN_VALUE));
    }

    private static void promise17Spread() {
        QuarryIndex x = new QuarryIndex();
        CHECK.throwsIllegalArgument("17 term -1", () -> x.spread(-1, 0));
        CHECK.throwsIllegalArgument("17 term 200", () -> x.spread(200, 0));
        CHECK.throwsIllegalArgument("17 field -1", () -> x.spread(0, -1));
        CHECK.throwsIllegalArgument("17 field 3", () -> x.spread(0, 3));
        Make.document(x, 0, 0, Make.row(7, 7), Make.row(), Make.row(7));
        Make.document(x, 0, 0, Make.row(7, 8));
        CHECK.same("17 the buffer does not count", x.spread(7, 0), 0);
        x.flush();
        CHECK.same("17 each document once", x.spread(7, 0), 2);
        CHECK.same("17 a field without it", x.spread(7, 1), 0);
        CHECK.same("17 another field", x.spread(7, 2), 1);
        CHECK.same("17 another term", x.spread(8, 0), 1);
        x.remove(0);
        CHECK.same("17 a gone one counts as long as it lies", x.spread(7, 0), 2);
        x.compact();
        CHECK.same("17 but no longer", x.spread(7, 0), 1);
        CHECK.same("17 nor in the other field", x.spread(7, 2), 0);
        x.setMute(7, true);
        CHECK.same("17 a mute one", x.spread(7, 0), 1);
        CHECK.same("17 the greatest term", x.spread(199, 2), 0);
        Make.document(x, 0, 0, Make.row(0), Make.row(), Make.row(199, 0));
        x.flush();
        CHECK.same("17 the least term", x.spread(0, 0), 1);
        CHECK.same("17 the greatest term of one", x.spread(199, 2), 1);
    }

    private static void promise18Rare() {
        QuarryIndex x = new QuarryIndex();
        CHECK.throwsIllegalArgument("18 term -1", () -> x.rare(-1, 0));
        CHECK.throwsIllegalArgument("18 term 200", () -> x.rare(200, 0));
        CHECK.throwsIllegalArgument("18 field -1", () -> x.rare(0, -1));
        CHECK.throwsIllegalArgument("18 field 3", () -> x.rare(0, 3));
        CHECK.same("18 without documents", x.rare(0, 0), 100);
        Make.document(x, 0, 0, Make.row(1, 2));
        Make.document(x, 0, 0, Make.row(1));
        Make.document(x, 0, 0);
        CHECK.same("18 the buffer does not count", x.rare(1, 0), 100);
        x.flush();
        CHECK.same("18 ROOT of 40000 / 3", x.rare(1, 0), 115);
        CHECK.same("18 ROOT of 40000 / 2", x.rare(2, 0), 141);
        CHECK.same("18 ROOT of 40000", x.rare(3, 0), 200);
        x.remove(2);
        CHECK.same("18 a gone one counts", x.rare(3, 0), 200);
        x.compact();
        CHECK.same("18 ROOT of 30000", x.rare(3, 0), 173);
        CHECK.same("18 in all documents", x.rare(1, 0), 100);

        QuarryIndex y = new QuarryIndex();
        for (int number = 0; number < 60; number++) {
            Make.document(y, 0, 0, Make.row(4));
        }
        y.flush();
        CHECK.same("18 ROOT of 610000", y.rare(5, 0), 781);
        CHECK.same("18 ROOT of 610000 / 61", y.rare(4, 0), 100);

        QuarryIndex z = new QuarryIndex();
        for (int number = 0; number < 56; number++) {
            Make.document(z, 0, 0);
        }
        z.flush();
        CHECK.same("18 ROOT of 570000", z.rare(0, 0), 754);
    }
}
