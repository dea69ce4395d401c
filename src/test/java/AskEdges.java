import java.math.BigInteger;

/** The edges of promises 39 to 45: asking. */
final class AskEdges {
    private final Edges edges;

    private AskEdges(Edges edges) {
        this.edges = edges;
    }

    static void tell(Edges edges) {
        AskEdges those = new AskEdges(edges);
        those.ofLike();
        those.ofLikeSums();
        those.ofMate();
        those.ofMateOfSeveral();
        those.ofCost();
        those.ofByAlias();
        those.ofWouldScore();
        those.ofWaste();
        those.ofDigest();
    }

    private static QuarryIndex flushed(int[]... rows) {
        QuarryIndex x = new QuarryIndex();
        for (int[] row : rows) {
            Make.document(x, 0, 0, row);
        }
        x.flush();
        return x;
    }

    private void ofLike() {
        edges.sentence(39, "Returns of the other ones that are in SEGMENTS and not GONE", () -> {
            QuarryIndex x = flushed(Make.row(1), Make.row(1), Make.row(1));
            edges.same("not itself", x.like(0), 1);
            edges.same("not itself, the second one", x.like(1), 0);
            x.remove(1);
            edges.same("not one that is GONE", x.like(0), 2);
            edges.same("one that is GONE may be asked for", x.like(1), 0);
            x.compact();
            edges.same("also if it lies nowhere", x.like(1), 0);
            Make.document(x, 0, 0, Make.row(1));
            x.remove(2);
            edges.same("not one in the BUFFER", x.like(0), -1);
            edges.same("one in the BUFFER may be asked for", x.like(3), 0);
            x.flush();
            edges.same("in a SEGMENT", x.like(0), 3);
        });
        edges.sentence(39, "of several the one with the smallest number", () -> {
            QuarryIndex x = flushed(Make.row(1), Make.row(2, 1), Make.row(1), Make.row(1));
            edges.same("of the others", x.like(0), 1);
            edges.same("of the others, from the last one", x.like(3), 0);
            x.remove(0);
            x.remove(1);
            edges.same("of those that are left", x.like(3), 2);
        });
        edges.sentence(39, "-1 if there is none with a sum above 0", () -> {
            QuarryIndex x = flushed(Make.row(1));
            edges.same("alone", x.like(0), -1);
            Make.flushed(x, 2);
            edges.same("no TERM in common", x.like(0), -1);
            Make.document(x, 0, 0);
            Make.document(x, 0, 0);
            x.flush();
            edges.same("both without TERMS", x.like(2), -1);
            Make.document(x, 0, 0, Make.row(), Make.row(1));
            x.flush();
            edges.same("in another FIELD", x.like(0), -1);
            QuarryIndex y = flushed(Make.row(0), Make.row(0));
            y.setMute(0, true);
            edges.same("a MUTE TERM in common", y.like(0), -1);
        });
    }

    private void ofLikeSums() {
        edges.sentence(39, "with the greatest sum of RARE(t, f), over all TERMS t that are not MUTE and FIELDS f",
                () -> {
            // RARE(1, 0) is the ROOT of 60000 / 5, 109; of 2, 3 and 4 that of 60000 / 3, 141
            QuarryIndex x = flushed(Make.row(1, 2, 3), Make.row(1, 2), Make.row(1), Make.row(3, 4), Make.row(1, 4));
            edges.same("a sum of 250", x.like(0), 1);
            edges.same("a sum of 250 ahead of 141", x.like(1), 0);
            edges.same("141 ahead of 109", x.like(4), 3);
            x.setMute(1, true);
            edges.same("without the MUTE one, 141 twice", x.like(0), 1);
            x.setMute(2, true);
            edges.same("141 by the third one", x.like(0), 3);
            edges.same("none is left", x.like(2), -1);
        });
        edges.sentence(39, "that both have there", () -> {
            QuarryIndex x = new QuarryIndex();
            Make.document(x, 0, 0, Make.row(0, 0, 0), Make.row(199), Make.row(5));
            Make.document(x, 0, 0, Make.row(0, 0, 0), Make.row(5), Make.row(199));
            Make.document(x, 0, 0, Make.row(0), Make.row(199), Make.row());
            Make.document(x, 0, 0, Make.row(199), Make.row(0), Make.row(5));
            x.flush();
            edges.same("in two FIELDS ahead of three times in one", x.like(0), 2);
            edges.same("in the same FIELD alone", x.like(1), 0);
            edges.same("in the FIELD 2", x.like(3), 0);
        });
    }

    private void ofMate() {
        edges.sentence(40, "Returns the TERM that goes with it most: the other one, not MUTE", () -> {
            QuarryIndex x = flushed(Make.row(1, 2, 3), Make.row(1, 2), Make.row(1));
            edges.same("not itself, though in more", x.mate(1), 2);
            x.setMute(2, true);
            edges.same("not a MUTE one", x.mate(1), 3);
            x.setMute(2, false);
            edges.same("no more MUTE", x.mate(1), 2);
        });
        edges.sentence(40, "that is in any FIELD of the most DOCUMENTS (in SEGMENTS, not GONE) that have the first one"
                + " in any FIELD, too", () -> {
            QuarryIndex x = new QuarryIndex();
            Make.document(x, 0, 0, Make.row(1), Make.row(7), Make.row(8, 8));
            Make.document(x, 0, 0, Make.row(7), Make.row(), Make.row(1));
            Make.document(x, 0, 0, Make.row(8, 8), Make.row(8), Make.row(8));
            Make.document(x, 0, 0, Make.row(8));
            edges.same("in the BUFFER", x.mate(1), -1);
            x.flush();
            edges.same("in two DOCUMENTS, in any FIELD", x.mate(1), 7);
            edges.same("the other way round", x.mate(7), 1);
            Make.document(x, 0, 0, Make.row(1, 8));
            Make.document(x, 0, 0, Make.row(8, 1));
            x.flush();
            edges.same("in three", x.mate(1), 8);
            x.remove(4);
            x.remove(5);
            edges.same("not in those that are GONE", x.mate(1), 7);
        });
        edges.sentence(40, "-1 without any", () -> {
            QuarryIndex x = new QuarryIndex();
            edges.same("without DOCUMENTS", x.mate(0), -1);
            Make.flushed(x, 0, 0);
            Make.flushed(x, 199);
            edges.same("alone", x.mate(0), -1);
            edges.same("a TERM that no DOCUMENT has", x.mate(5), -1);
            Make.document(x, 0, 0, Make.row(0), Make.row(199));
            x.flush();
            edges.same("the last TERM", x.mate(0), 199);
            edges.same("the first TERM", x.mate(199), 0);
            x.setMute(0, true);
            edges.same("with a MUTE one alone", x.mate(199), -1);
            x.setMute(0, false);
            x.remove(2);
            edges.same("where all are GONE", x.mate(0), -1);
        });
    }

    private void ofMateOfSeveral() {
        edges.sentence(40, "of several the one that is in the fewest DOCUMENTS (in SEGMENTS, not GONE) at all", () -> {
            QuarryIndex x = flushed(Make.row(1, 2, 3), Make.row(2), Make.row(2, 2, 2));
            edges.same("one ahead of three", x.mate(1), 3);
            Make.document(x, 0, 0, Make.row(), Make.row(3), Make.row(3));
            Make.document(x, 0, 0, Make.row(), Make.row(3));
            x.flush();
            edges.same("three each", x.mate(1), 2);
            Make.document(x, 0, 0, Make.row(2));
            edges.same("not those in the BUFFER", x.mate(1), 2);
            x.flush();
            edges.same("three ahead of four", x.mate(1), 3);
            x.remove(1);
            x.remove(2);
            edges.same("not those that are GONE", x.mate(1), 2);
        });
        edges.sentence(40, "of several the smallest one", () -> {
            QuarryIndex x = flushed(Make.row(199, 7, 3, 5, 0));
            edges.same("of the others", x.mate(199), 0);
            edges.same("not itself", x.mate(0), 3);
            x.setMute(3, true);
            edges.same("nor a MUTE one", x.mate(0), 5);
        });
    }

    private void ofCost() {
        edges.sentence(41, "Returns how many ENTRIES one would read", () -> {
            QuarryIndex x = flushed(Make.row(1, 1, 1), Make.row(1), Make.row(2));
            edges.same("n(t, f)", x.cost(x.term(1, 1)), 2);
            edges.same("of a TERM that is nowhere", x.cost(x.term(3, 7)), 0);
            edges.same("without a TERM NODE", x.cost(x.kind(1)), 0);
            edges.same("without a TERM NODE, DATED", x.cost(x.dated(0, 1)), 0);
            x.remove(0);
            edges.same("GONE ones lie there", x.cost(0), 2);
            x.compact();
            edges.same("no more", x.cost(0), 1);
            Make.document(x, 0, 0, Make.row(1));
            edges.same("not in the BUFFER", x.cost(0), 1);
        });
        edges.sentence(41, "of each TERM NODE in it (itself, or however deep", () -> {
            QuarryIndex x = flushed(Make.row(1, 2), Make.row(1));
            x.term(1, 1);
            x.term(2, 1);
            edges.same("itself", x.cost(0), 2);
            edges.same("AND", x.cost(x.and(0, 1)), 3);
            edges.same("OR", x.cost(x.or(0, 1)), 3);
            edges.same("NOT, the second one too", x.cost(x.not(0, 1)), 3);
            edges.same("NEAR", x.cost(x.near(0, 1, 1, false)), 3);
            edges.same("SCALED", x.cost(x.scaled(1, 0)), 1);
            edges.same("MOST", x.cost(x.most(0, 2, 2)), 3);
            int node = 8;
            x.or(2, 2);
            while (x.nodes() < 30) {
                node = x.scaled(node, 1);
            }
            edges.same("however deep", x.cost(29), 3);
        });
        edges.sentence(41, "each NODE once", () -> {
            QuarryIndex x = flushed(Make.row(1));
            x.term(1, 1);
            edges.same("twice in one", x.cost(x.and(0, 0)), 1);
            edges.same("along two", x.cost(x.or(0, 1)), 1);
            edges.same("NEAR itself", x.cost(x.near(0, 0, 1, false)), 1);
            x.term(1, 1);
            edges.same("another NODE of the same TERM", x.cost(x.or(0, 4)), 2);
            edges.same("MOST of all", x.cost(x.most(1, 4, 1)), 2);
        });
        edges.sentence(41, "for each of its FIELDS, n(t, f) of its TERM and of its ALIAS", () -> {
            QuarryIndex x = new QuarryIndex();
            Make.document(x, 0, 0, Make.row(1, 2), Make.row(1), Make.row(2));
            Make.document(x, 0, 0, Make.row(2), Make.row(2), Make.row(2));
            x.flush();
            int[] due = {0, 1, 1, 2, 0, 1, 1, 2};
            int[] dueWithAlias = {0, 3, 2, 5, 2, 5, 4, 7};
            for (int fields = 1; fields <= 7; fields++) {
                int node = x.term(1, fields);
                x.setAlias(1, -1);
                edges.same("FIELDS " + fields, x.cost(node), due[fields]);
                x.setAlias(1, 2);
                edges.same("FIELDS " + fields + " with an ALIAS", x.cost(node), dueWithAlias[fields]);
            }
        });
        edges.sentence(41, "but not of MUTE ones", () -> {
            QuarryIndex x = flushed(Make.row(0, 199), Make.row(0, 199), Make.row(0));
            x.setAlias(0, 199);
            x.term(0, 1);
            edges.same("both", x.cost(0), 5);
            x.setMute(0, true);
            edges.same("the ALIAS alone", x.cost(0), 2);
            x.setMute(199, true);
            edges.same("none", x.cost(0), 0);
            x.setMute(0, false);
            edges.same("the TERM alone", x.cost(0), 3);
        });
    }

    private void ofByAlias() {
        edges.sentence(42, "Returns how many of the DOCUMENTS that it finds now it would find no more without all"
                + " ALIASES", () -> {
            QuarryIndex x = flushed(Make.row(1), Make.row(2), Make.row(1, 2), Make.row(3), Make.row(4, 2));
            x.term(1, 1);
            x.term(3, 1);
            int either = x.or(0, 1);
            int both = x.and(0, 1);
            int not = x.not(0, 1);
            int denied = x.not(x.kind(255), 0);
            edges.same("without an ALIAS", x.byAlias(either), 0);
            x.setAlias(1, 2);
            edges.same("found by the ALIAS alone", x.byAlias(0), 2);
            edges.same("OR", x.byAlias(either), 2);
            x.setAlias(3, 4);
            edges.same("of both", x.byAlias(either), 2);
            edges.same("by two ALIASES at once", x.byAlias(both), 1);
            edges.same("NOT of the other one", x.byAlias(not), 1);
            edges.same("those that would be found without them", x.byAlias(denied), 0);
            x.remove(1);
            edges.same("not one that is GONE", x.byAlias(0), 1);
            Make.document(x, 0, 0, Make.row(2));
            edges.same("nor one in the BUFFER", x.byAlias(0), 1);
            x.flush();
            edges.same("in a SEGMENT", x.byAlias(0), 2);
            x.setMute(1, true);
            edges.same("where the TERM is MUTE, all of them", x.byAlias(0), 3);
            x.setMute(2, true);
            edges.same("where the ALIAS is MUTE", x.byAlias(0), 0);
            edges.same("the ALIASES stay", x.setAlias(1, -1), 2);
        });
    }

    private void ofWouldScore() {
        edges.sentence(43, "Returns what score() would tell behind flush() and compact()", () -> {
            Edges.Recipe[] states = {Stock::small, Stock::opened, x -> { Stock.small(x); x.compact(); },
                x -> { Stock.small(x); x.flush(); }, x -> { Stock.small(x); removeAll(x); }};
            for (int state = 0; state < states.length; state++) {
                QuarryIndex x = Edges.made(states[state]);
                QuarryIndex then = Edges.made(states[state]);
                then.flush();
                then.compact();
                for (int node = 0; node < 10; node++) {
                    for (int document = 0; document < 7; document++) {
                        edges.same("state " + state + ", NODE " + node + ", document " + document,
                                x.wouldScore(node, document), then.score(node, document));
                    }
                }
                edges.same("nothing is changed", x.digest(), Edges.made(states[state]).digest());
            }
            QuarryIndex x = flushed(Make.row(1), Make.row(1));
            x.term(1, 1);
            Make.document(x, 0, 0, Make.row(1, 1, 1));
            x.remove(0);
            edges.same("of one that is GONE", x.wouldScore(0, 0), -1);
            // N 2, n 2, L 4: 6000 / (33 + 54 / 4), and 2000 / (13 + 18 / 4)
            edges.same("of one in the BUFFER", x.wouldScore(0, 2), 130);
            edges.same("of one beside it", x.wouldScore(0, 1), 117);
            x.remove(2);
            edges.same("of one that is GONE in the BUFFER", x.wouldScore(0, 2), -1);
            edges.same("of the last one", x.wouldScore(0, 1), 90);
            x.remove(1);
            edges.same("where none would be left", x.wouldScore(0, 1), -1);
        });
    }

    private static void removeAll(QuarryIndex x) {
        for (int document = 0; document < x.documents(); document++) {
            x.remove(document);
        }
    }

    private void ofWaste() {
        edges.sentence(44, "Returns of the DOCUMENTS that lie in SEGMENTS the part that is GONE", () -> {
            QuarryIndex x = flushed(Make.row(1), Make.row(1));
            edges.same("none", x.waste(), 0.0);
            x.remove(0);
            edges.same("one of two", x.waste(), 0.5);
            Make.document(x, 0, 0);
            Make.document(x, 0, 0);
            x.remove(2);
            edges.same("not those in the BUFFER", x.waste(), 0.5);
            x.remove(1);
            edges.same("all", x.waste(), 1.0);
            x.flush();
            edges.same("three of four", x.waste(), 0.75);
            x.compact();
            edges.same("none any more", x.waste(), 0.0);
        });
        edges.sentence(44, "how many are, divided by how many there are, not cut", () -> {
            QuarryIndex x = new QuarryIndex();
            for (int number = 0; number < 60; number++) {
                Make.document(x, 0, 0);
            }
            x.flush();
            for (int gone = 1; gone <= 60; gone++) {
                x.remove(60 - gone);
                edges.same(gone + " of sixty", x.waste(), gone / 60.0);
            }
        });
        edges.sentence(44, "0 without any", () -> {
            QuarryIndex x = new QuarryIndex();
            edges.same("without DOCUMENTS", x.waste(), 0.0);
            Make.document(x, 0, 0);
            x.remove(0);
            edges.same("without SEGMENTS", x.waste(), 0.0);
            x.flush();
            edges.same("GONE", x.waste(), 1.0);
            x.compact();
            edges.same("without SEGMENTS again", x.waste(), 0.0);
        });
    }

    private void ofDigest() {
        edges.sentence(45, "A number d starts with 2609; then d becomes d * 31 + v", () -> {
            long due = 2609;
            // documents(), segments(), nodes(), results() and ofKind() of 0 to 7, all of them 0
            for (int zeros = 0; zeros < 12; zeros++) {
                due *= 31;
            }
            edges.same("a new object", new QuarryIndex().digest(), due);
        });
        edges.sentence(45, "which wraps around as a 64-bit integer", () -> {
            QuarryIndex x = new QuarryIndex();
            BigInteger due = BigInteger.valueOf(2609);
            for (int zeros = 0; zeros < 12; zeros++) {
                due = due.multiply(BigInteger.valueOf(31));
            }
            edges.same("it is greater than 64 bits hold", due.bitLength() > 64, true);
            edges.same("a new object", x.digest(), due.longValue());
        });
        edges.sentence(45, "Returns d", () -> {
            QuarryIndex x = Edges.made(Stock::small);
            long due = Digests.byCalls(Stock::small);
            edges.same("d", x.digest(), due);
            edges.same("again", x.digest(), due);
            x.remove(0);
            edges.same("another one behind a change", x.digest() == due, false);
        });
        edges.sentence(45, "for each v in this order: documents(), and of each stateOf(); segments(), and of each"
                + " tierOf(), sizeOf(); nodes(), and of each found(), cost(), and score() of each DOCUMENT; results(),"
                + " and of each resultAt(), scoreAt(); ofKind() of 0 to 7; like() of each DOCUMENT", () -> {
            Edges.Recipe[] states = {Stock::empty, Stock::small, Stock::opened, Stock::openedFull, Stock::lastOpened,
                Stock::sixty, Stock::thirty, x -> { Stock.small(x); x.compact(); },
                x -> { Stock.small(x); x.clear(); }, x -> { Stock.small(x); removeAll(x); },
                x -> { Stock.small(x); x.flush(); x.search(x.kind(255)); },
                x -> { Stock.sixty(x); x.flush(); x.search(x.kind(255)); }};
            for (int state = 0; state < states.length; state++) {
                edges.same("state " + state, Edges.made(states[state]).digest(), Digests.byCalls(states[state]));
            }
        });
    }
}
