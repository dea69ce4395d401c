/** The edges of promises 12 to 18: segments, and what is counted in them. */
final class SegmentEdges {
    private final Edges edges;

    private SegmentEdges(Edges edges) {
        this.edges = edges;
    }

    static void tell(Edges edges) {
        SegmentEdges those = new SegmentEdges(edges);
        those.ofFlush();
        those.ofBuffer();
        those.ofMerges();
        those.ofMergesOfGoneOnes();
        those.ofCompact();
        those.ofCompactTiers();
        those.ofSegmentsAsked();
        those.ofSpread();
        those.ofRare();
        those.ofLength();
    }

    private static String shape(QuarryIndex x) {
        StringBuilder told = new StringBuilder();
        for (int segment = 0; segment < x.segments(); segment++) {
            told.append(x.tierOf(segment)).append(':').append(x.sizeOf(segment)).append(' ');
        }
        return told.toString().trim();
    }

    /** So many flushes, each of one document. */
    private static QuarryIndex flushes(int many) {
        QuarryIndex x = new QuarryIndex();
        for (int number = 0; number < many; number++) {
            Make.document(x, 0, 0);
            x.flush();
        }
        return x;
    }

    private void ofFlush() {
        edges.sentence(12, "Returns how many DOCUMENTS the BUFFER had", () -> {
            QuarryIndex x = new QuarryIndex();
            edges.same("none", x.flush(), 0);
            x.open(0, 0);
            edges.same("one that is OPEN is not in it", x.flush(), 0);
            x.close();
            Make.document(x, 0, 0);
            x.remove(1);
            edges.same("those that are GONE count", x.flush(), 2);
            edges.same("none any more", x.flush(), 0);
            for (int number = 2; number < 60; number++) {
                Make.document(x, 0, 0);
            }
            edges.same("all the others", x.flush(), 58);
        });
        edges.sentence(12, "The BUFFER is a SEGMENT of the TIER 0, once it is FLUSHED", () -> {
            QuarryIndex x = new QuarryIndex();
            Make.document(x, 0, 0);
            edges.same("not yet", shape(x), "");
            x.flush();
            edges.same("now", shape(x), "0:1");
            Make.document(x, 0, 0);
            Make.document(x, 0, 0);
            edges.same("the next one not yet", shape(x), "0:1");
            x.flush();
            edges.same("the next one now", shape(x), "0:1 0:2");
        });
        edges.sentence(12, "if it has any DOCUMENTS, GONE or not", () -> {
            QuarryIndex x = new QuarryIndex();
            x.flush();
            edges.same("an empty BUFFER is none", shape(x), "");
            Make.document(x, 0, 0);
            x.remove(0);
            x.flush();
            edges.same("one DOCUMENT that is GONE", shape(x), "0:1");
            x.flush();
            x.flush();
            edges.same("empty again", shape(x), "0:1");
        });
    }

    private void ofBuffer() {
        edges.sentence(12, "nothing is found in the BUFFER", () -> {
            QuarryIndex x = new QuarryIndex();
            x.term(1, 1);
            Make.document(x, 0, 0, Make.row(1, 2));
            Make.document(x, 0, 0, Make.row(1, 2));
            edges.same("found", x.found(0), 0);
            edges.same("score", x.score(0, 0), -1);
            edges.same("search", x.search(0), 0);
            edges.same("like", x.like(0), -1);
            edges.same("mate", x.mate(1), -1);
            edges.same("nor counted", x.spread(1, 0), 0);
            edges.same("ROOT of 10000 * 1 / 1", x.rare(1, 0), 100);
            x.flush();
            edges.same("found in a SEGMENT", x.found(0), 2);
        });
        edges.sentence(12, "SEGMENTS are in a row, the oldest first", () -> {
            QuarryIndex x = flushes(3);
            Make.document(x, 0, 0);
            Make.document(x, 0, 0);
            x.flush();
            Make.document(x, 0, 0);
            x.flush();
            edges.same("in a row", shape(x), "1:3 0:2 0:1");
        });
    }

    private void ofMerges() {
        edges.sentence(12, "Behind each flush, as long as the last three SEGMENTS are of the same TIER", () -> {
            edges.same("two stay", shape(flushes(2)), "0:1 0:1");
            edges.same("three", shape(flushes(3)), "1:3");
            edges.same("not of the same TIER", shape(flushes(5)), "1:3 0:1 0:1");
            edges.same("two of the TIER 1", shape(flushes(7)), "1:3 1:3 0:1");
            edges.same("again and again", shape(flushes(9)), "2:9");
            edges.same("three times", shape(flushes(27)), "3:27");
            edges.same("one more", shape(flushes(28)), "3:27 0:1");
            edges.same("one less", shape(flushes(26)), "2:9 2:9 1:3 1:3 0:1 0:1");
        });
        edges.sentence(12, "they become one, of the TIER that is 1 more", () -> {
            QuarryIndex x = flushes(2);
            edges.same("0", x.tierOf(1), 0);
            Make.document(x, 0, 0);
            x.flush();
            edges.same("1", x.tierOf(0), 1);
            edges.same("one", x.segments(), 1);
            edges.same("59 flushes", shape(flushes(59)), "3:27 3:27 1:3 0:1 0:1");
            edges.same("60 flushes", shape(flushes(60)), "3:27 3:27 1:3 1:3");
        });
        edges.sentence(12, "with their DOCUMENTS that are not GONE, by their numbers", () -> {
            QuarryIndex x = flushes(2);
            x.remove(1);
            Make.document(x, 0, 0);
            Make.document(x, 0, 0);
            x.remove(3);
            x.flush();
            edges.same("two of four", shape(x), "1:2");
            x.kind(1);
            x.search(0);
            edges.same("the smaller number", x.resultAt(0), 0);
            edges.same("the greater number", x.resultAt(1), 2);
        });
    }

    private void ofMergesOfGoneOnes() {
        edges.sentence(12, "without any such it is none at all", () -> {
            QuarryIndex x = flushes(5);
            x.remove(3);
            x.remove(4);
            Make.document(x, 0, 0);
            x.remove(5);
            edges.same("ahead", shape(x), "1:3 0:1 0:1");
            edges.same("the BUFFER had one", x.flush(), 1);
            edges.same("none of the three", shape(x), "1:3");
            Make.document(x, 0, 0);
            x.flush();
            edges.same("the next one behind the first", shape(x), "1:3 0:1");
            QuarryIndex y = flushes(8);
            for (int number = 0; number < 8; number++) {
                y.remove(number);
            }
            Make.document(y, 0, 0);
            y.flush();
            edges.same("some are left, then all are merged", shape(y), "2:1");
            QuarryIndex z = flushes(6);
            edges.same("two of the TIER 1", shape(z), "1:3 1:3");
            for (int number = 6; number < 9; number++) {
                Make.document(z, 0, 0);
                z.remove(number);
                z.flush();
            }
            edges.same("where none is left, the two stay", shape(z), "1:3 1:3");
        });
        edges.sentence(12, "Those that are GONE do not lie anywhere then, but keep their numbers", () -> {
            QuarryIndex x = flushes(2);
            Make.document(x, 0, 0, Make.row(3));
            x.remove(2);
            x.flush();
            edges.same("how many lie", x.sizeOf(0), 2);
            edges.same("n(t, f)", x.spread(3, 0), 0);
            edges.same("none is wasted", x.waste(), 0.0);
            edges.same("its number", x.documents(), 3);
            edges.same("its state", x.stateOf(2), 0);
            edges.same("its TERMS", x.termAt(2, 0, 0), 3);
            edges.same("the next number", x.open(0, 0), 3);
        });
    }

    private void ofCompact() {
        edges.sentence(13, "MERGES all SEGMENTS, if there are any", () -> {
            QuarryIndex x = new QuarryIndex();
            edges.same("there are none", x.compact(), 0);
            edges.same("none comes", shape(x), "");
            Make.document(x, 0, 0);
            edges.same("the BUFFER is none", x.compact(), 0);
            edges.same("and stays", x.stateOf(0), 1);
            edges.same("no SEGMENT", shape(x), "");
            x.flush();
            edges.same("one", x.compact(), 0);
            edges.same("it stays", shape(x), "0:1");
            Make.document(x, 0, 0);
            x.flush();
            x.compact();
            edges.same("two become one", shape(x), "0:2");
        });
        edges.sentence(13, "without those that are GONE", () -> {
            QuarryIndex x = flushes(2);
            x.remove(0);
            x.compact();
            edges.same("one is left", shape(x), "0:1");
            x.remove(1);
            x.compact();
            edges.same("all are GONE: none at all", shape(x), "");
            edges.same("N is 0", x.rare(0, 0), 100);
            Make.document(x, 0, 0);
            x.flush();
            edges.same("the next one", shape(x), "0:1");
        });
        edges.sentence(13, "Returns how many DOCUMENTS that lay in them are no more", () -> {
            QuarryIndex x = flushes(4);
            Make.document(x, 0, 0);
            x.remove(0);
            x.remove(3);
            x.remove(4);
            edges.same("two, and not the one of the BUFFER", x.compact(), 2);
            edges.same("none again", x.compact(), 0);
            edges.same("the BUFFER had one", x.flush(), 1);
            edges.same("one", x.compact(), 1);
            x.remove(1);
            x.remove(2);
            edges.same("all", x.compact(), 2);
            edges.same("none are left", x.compact(), 0);
        });
    }

    private void ofCompactTiers() {
        edges.sentence(13, "they become one, of the greatest TIER of them", () -> {
            QuarryIndex x = flushes(13);
            edges.same("ahead", shape(x), "2:9 1:3 0:1");
            x.compact();
            edges.same("the greatest", shape(x), "2:13");
            x.compact();
            edges.same("again", shape(x), "2:13");
            for (int number = 0; number < 3; number++) {
                Make.document(x, 0, 0);
                x.flush();
            }
            edges.same("behind it comes one of the TIER 1", shape(x), "2:13 1:3");
            QuarryIndex y = flushes(2);
            y.compact();
            Make.document(y, 0, 0);
            y.flush();
            edges.same("two of the TIER 0", shape(y), "0:2 0:1");
            Make.document(y, 0, 0);
            y.flush();
            edges.same("three are merged", shape(y), "1:4");
        });
    }

    private void ofSegmentsAsked() {
        edges.sentence(14, "Returns how many SEGMENTS there are", () -> {
            edges.same("none", new QuarryIndex().segments(), 0);
            edges.same("one", flushes(1).segments(), 1);
            edges.same("two", flushes(2).segments(), 2);
            edges.same("one again", flushes(3).segments(), 1);
            edges.same("the most", flushes(53).segments(), 7);
        });
        edges.sentence(15, "Returns its TIER", () -> {
            QuarryIndex x = flushes(53);
            int[] due = {3, 2, 2, 1, 1, 0, 0};
            for (int segment = 0; segment < due.length; segment++) {
                edges.same("SEGMENT " + segment, x.tierOf(segment), due[segment]);
            }
        });
        edges.sentence(15, "a SEGMENT, from 0 on, the oldest first", () -> {
            QuarryIndex x = flushes(4);
            edges.same("the oldest one", x.tierOf(0), 1);
            edges.same("the last one", x.tierOf(1), 0);
            edges.refused("behind the last one", Edges.BOUNDS, x, y -> y.tierOf(2));
            x.compact();
            edges.same("the only one", x.tierOf(0), 1);
            edges.refused("no more there", Edges.BOUNDS, x, y -> y.tierOf(1));
            for (int number = 0; number < 4; number++) {
                x.remove(number);
            }
            x.compact();
            edges.refused("none any more", Edges.BOUNDS, x, y -> y.tierOf(0));
        });
        edges.sentence(16, "Returns how many DOCUMENTS lie in it, GONE or not", () -> {
            QuarryIndex x = flushes(4);
            edges.same("the oldest one", x.sizeOf(0), 3);
            edges.same("the last one", x.sizeOf(1), 1);
            x.remove(0);
            x.remove(3);
            edges.same("one is GONE", x.sizeOf(0), 3);
            edges.same("all are GONE", x.sizeOf(1), 1);
            QuarryIndex y = new QuarryIndex();
            for (int number = 0; number < 60; number++) {
                Make.document(y, 0, 0);
            }
            y.flush();
            edges.same("sixty", y.sizeOf(0), 60);
        });
    }

    private void ofSpread() {
        edges.sentence(17, "Returns n(t, f)", () -> {
            QuarryIndex x = new QuarryIndex();
            edges.same("without DOCUMENTS", x.spread(0, 0), 0);
            Make.document(x, 0, 0, Make.row(0), Make.row(199));
            x.flush();
            edges.same("the first TERM", x.spread(0, 0), 1);
            edges.same("the last TERM", x.spread(199, 1), 1);
            edges.same("not in that FIELD", x.spread(0, 1), 0);
            edges.same("an empty FIELD", x.spread(0, 2), 0);
        });
        edges.sentence(17, "n(t, f) in how many of these the FIELD f has the TERM t at least once", () -> {
            QuarryIndex x = new QuarryIndex();
            Make.document(x, 0, 0, Make.row(7, 7, 7, 7, 7, 7, 7, 7, 7, 7, 7, 7));
            Make.document(x, 0, 0, Make.row(8, 8, 8, 8, 8, 8, 8, 8, 8, 8, 8, 7));
            x.flush();
            edges.same("twelve times, and at the last place", x.spread(7, 0), 2);
            edges.same("eleven times", x.spread(8, 0), 1);
            QuarryIndex y = new QuarryIndex();
            for (int number = 0; number < 60; number++) {
                Make.document(y, 0, 0, Make.row(5));
            }
            y.flush();
            edges.same("in all of sixty", y.spread(5, 0), 60);
        });
        edges.sentence(17, "What LIES in SEGMENTS counts for all that follows in this section, GONE or not", () -> {
            QuarryIndex x = new QuarryIndex();
            Make.document(x, 0, 0, Make.row(1, 2));
            Make.document(x, 0, 0, Make.row(1));
            x.flush();
            x.term(2, 1);
            // RARE 122; l 2, N 2, L 3: 2440 / (13 + 36 / 3)
            edges.same("ahead", x.score(0, 0), 97);
            x.remove(1);
            edges.same("n of one that is GONE", x.spread(1, 0), 2);
            edges.same("N of it", x.rare(2, 0), 122);
            edges.same("L of it", x.score(0, 0), 97);
            x.compact();
            edges.same("n without it", x.spread(1, 0), 1);
            edges.same("N without it", x.rare(2, 0), 100);
            edges.same("L without it", x.score(0, 0), 90);
            Make.document(x, 0, 0, Make.row(2, 2, 2));
            edges.same("nor in the BUFFER", x.score(0, 0), 90);
            x.remove(2);
            x.flush();
            // N 2, n 2: RARE 100; l 2, L 5: 2000 / (13 + 36 / 5)
            edges.same("GONE ahead of the flush", x.score(0, 0), 100);
        });
    }

    private void ofRare() {
        edges.sentence(18, "Returns RARE(t, f)", () -> {
            QuarryIndex x = new QuarryIndex();
            edges.same("without DOCUMENTS", x.rare(199, 2), 100);
            Make.document(x, 0, 0, Make.row(), Make.row(0));
            x.flush();
            edges.same("ROOT of 20000 / 2", x.rare(0, 1), 100);
            edges.same("ROOT of 20000", x.rare(0, 0), 141);
            QuarryIndex y = new QuarryIndex();
            for (int number = 0; number < 60; number++) {
                Make.document(y, 0, 0, Make.row(5));
            }
            y.flush();
            edges.same("the greatest one, ROOT of 610000", y.rare(4, 0), 781);
            edges.same("the least one, ROOT of 610000 / 61", y.rare(5, 0), 100);
        });
        edges.sentence(18, "the greatest number whose square is not above it", () -> {
            edges.same("ROOT of 10000, a square", spread(0, 0).rare(5, 0), 100);
            edges.same("ROOT of 490000 / 4, a square", spread(48, 3).rare(5, 0), 350);
            edges.same("ROOT of 250000, a square", spread(49, 1).rare(5, 0), 500);
            edges.same("ROOT of 62000, 1 less than a square", spread(30, 4).rare(5, 0), 248);
            edges.same("ROOT of 20000", spread(1, 0).rare(5, 0), 141);
        });
        edges.sentence(18, "RARE(t, f) is the ROOT of 10000 * (N + 1) / (n(t, f) + 1)", () -> {
            for (int all = 0; all <= 60; all++) {
                for (int many = 0; many <= all; many++) {
                    int square = 10000 * (all + 1) / (many + 1);
                    int due = 0;
                    while ((due + 1) * (due + 1) <= square) {
                        due++;
                    }
                    edges.same("N " + all + ", n " + many, spread(all, many).rare(5, 0), due);
                }
            }
        });
        edges.sentence(18, "N is how many DOCUMENTS", () -> {
            QuarryIndex x = flushes(2);
            edges.same("two, ROOT of 30000", x.rare(0, 0), 173);
            x.compact();
            edges.same("two in one, ROOT of 30000", x.rare(0, 0), 173);
            x.remove(0);
            edges.same("GONE or not", x.rare(0, 0), 173);
            x.compact();
            edges.same("one, ROOT of 20000", x.rare(0, 0), 141);
        });
    }

    /** So many documents, of which so many have the TERM 5. */
    private static QuarryIndex spread(int all, int many) {
        QuarryIndex x = new QuarryIndex();
        for (int number = 0; number < all; number++) {
            x.open(0, 0);
            if (number < many) {
                x.write(0, 5);
            }
            x.close();
        }
        x.flush();
        return x;
    }

    private void ofLength() {
        edges.sentence(18, "L(f) how many TERMS the FIELD f has in all of them together", () -> {
            QuarryIndex x = new QuarryIndex();
            Make.document(x, 0, 0, Make.row(1), Make.row(1));
            Make.document(x, 0, 0, Make.row(2, 2, 2, 2, 2, 2, 2, 2), Make.row());
            x.flush();
            // RARE 122; N 2; l 1: L(0) is 9, and L(1) is 1
            edges.same("each time it is there: 2440 / (13 + 18 / 9)", x.score(x.term(1, 1), 0), 162);
            edges.same("of the FIELD alone: 2440 / (13 + 18 / 1)", x.score(x.term(1, 2), 0), 78);
        });
    }
}
