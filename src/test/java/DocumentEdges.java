/** The edges of promises 1 to 11: a new object, and documents. */
final class DocumentEdges {
    private final Edges edges;

    private DocumentEdges(Edges edges) {
        this.edges = edges;
    }

    static void tell(Edges edges) {
        DocumentEdges those = new DocumentEdges(edges);
        those.ofNewObject();
        those.ofOpen();
        those.ofOpenAndClosed();
        those.ofWrite();
        those.ofClose();
        those.ofRemove();
        those.ofMutePlaces();
        those.ofMuteFound();
        those.ofAlias();
        those.ofAliasFound();
        those.ofWeight();
        those.ofAsked();
    }

    private void ofNewObject() {
        edges.sentence(1, "Creates an engine without DOCUMENTS", () -> {
            QuarryIndex x = new QuarryIndex();
            edges.same("documents", x.documents(), 0);
            edges.refused("the first one", Edges.BOUNDS, x, y -> y.stateOf(0));
            edges.same("the BUFFER is empty", x.flush(), 0);
            edges.same("there are no SEGMENTS", x.segments(), 0);
            edges.same("the first number", x.open(0, 0), 0);
        });
        edges.sentence(1, "An object is used for at most 512 calls after it has been made", () -> {
            QuarryIndex x = new QuarryIndex();
            Stock.small(x);
            long due = x.digest();
            QuarryIndex y = new QuarryIndex();
            for (int call = 0; call < 512 - Stock.SMALL_CALLS - 1; call++) {
                y.setMute(77, call % 2 == 1);
            }
            Stock.small(y);
            edges.same("the last one of 512 calls", y.digest(), due);
        });
        edges.sentence(1, "All numbers are whole, if nothing else is said", () -> {
            QuarryIndex x = new QuarryIndex();
            for (int number = 0; number < 3; number++) {
                Make.document(x, 0, 0);
            }
            x.flush();
            x.remove(1);
            edges.same("RARE is whole, ROOT of 40000 / 1", x.rare(0, 0), 200);
            edges.same("waste() is said to be not", x.waste(), 1.0 / 3.0);
        });
    }

    private void ofOpen() {
        edges.sentence(2, "A DOCUMENT has a DATE, 0 to 9999", () -> {
            QuarryIndex x = new QuarryIndex();
            Make.document(x, 0, 0);
            Make.document(x, 9999, 0);
            x.flush();
            edges.same("the first DATE", x.score(x.dated(0, 0), 0), 0);
            edges.same("the last DATE", x.score(x.dated(9999, 9999), 1), 0);
            edges.same("none between", x.found(x.dated(1, 9998)), 0);
        });
        edges.sentence(2, "a KIND, 0 to 7", () -> {
            QuarryIndex x = new QuarryIndex();
            Make.document(x, 0, 0);
            Make.document(x, 0, 7);
            x.flush();
            edges.same("the first KIND", x.score(x.kind(1), 0), 0);
            edges.same("the last KIND", x.score(x.kind(128), 1), 0);
            edges.same("none between", x.found(x.kind(126)), 0);
        });
        edges.sentence(2, "Opens a DOCUMENT without TERMS", () -> {
            QuarryIndex x = new QuarryIndex();
            Make.document(x, 0, 0, Make.row(1, 2), Make.row(3), Make.row(4));
            Make.document(x, 0, 0);
            for (int field = 0; field < 3; field++) {
                int empty = field;
                edges.refused("field " + field, Edges.BOUNDS, x, y -> y.termAt(1, empty, 0));
            }
            x.flush();
            edges.same("it is found all the same", x.score(x.kind(1), 1), 0);
            x.open(0, 0);
            edges.same("its first TERM", x.write(0, 7), 1);
        });
        edges.sentence(2, "Returns the number that it gets when it is closed", () -> {
            QuarryIndex x = new QuarryIndex();
            edges.same("the first one", x.open(5, 0), 0);
            edges.same("it has none yet", x.documents(), 0);
            x.write(0, 17);
            x.close();
            edges.same("now it has", x.termAt(0, 0, 0), 17);
            x.flush();
            x.remove(0);
            x.compact();
            edges.same("no number is given again", x.open(5, 0), 1);
        });
    }

    private void ofOpenAndClosed() {
        edges.sentence(2, "One DOCUMENT at most is OPEN", () -> {
            QuarryIndex x = new QuarryIndex();
            x.open(3, 3);
            x.write(0, 1);
            edges.refused("another one", Edges.STATE, x, y -> y.open(4, 4));
            edges.same("the first one is written on", x.write(0, 2), 2);
            x.close();
            edges.same("another one behind it", x.open(4, 4), 1);
            x.close();
            x.flush();
            edges.same("the first one's DATE", x.score(x.dated(3, 3), 0), 0);
            edges.same("the first one's KIND", x.score(x.kind(1 << 3), 0), 0);
        });
        edges.sentence(2, "At most 60 get one", () -> {
            QuarryIndex x = new QuarryIndex();
            for (int number = 0; number < 60; number++) {
                edges.same("open", x.open(0, 0), number);
                edges.same("close", x.close(), number + 1);
            }
            edges.same("the last one has its number", x.stateOf(59), 1);
            edges.refused("the next one", Edges.STATE, x, y -> y.open(0, 0));
            edges.same("sixty", x.documents(), 60);
            edges.same("all of them in one SEGMENT", x.flush(), 60);
            edges.same("and found", x.found(x.kind(1)), 60);
        });
    }

    private void ofWrite() {
        edges.sentence(3, "Returns how many TERMS the FIELD has then", () -> {
            QuarryIndex x = new QuarryIndex();
            x.open(0, 0);
            for (int many = 1; many <= 12; many++) {
                for (int field = 2; field >= 0; field--) {
                    edges.same("field " + field, x.write(field, many), many);
                }
            }
        });
        edges.sentence(3, "each a row of at most 12 TERMS", () -> {
            QuarryIndex x = new QuarryIndex();
            x.open(0, 0);
            for (int field = 0; field < 3; field++) {
                for (int many = 1; many <= 12; many++) {
                    edges.same("field " + field, x.write(field, 5), many);
                }
                int full = field;
                edges.refused("one more in field " + field, Edges.STATE, x, y -> y.write(full, 5));
            }
        });
        edges.sentence(3, "whose places are numbered from 0", () -> {
            QuarryIndex x = new QuarryIndex();
            Make.document(x, 0, 0, Make.row(20, 21, 22, 23, 24, 25, 26, 27, 28, 29, 30, 31));
            for (int place = 0; place < 12; place++) {
                edges.same("place " + place, x.termAt(0, 0, place), 20 + place);
            }
        });
        edges.sentence(3, "TERMS are 0 to 199", () -> {
            QuarryIndex x = new QuarryIndex();
            Make.flushed(x, 0, 199);
            edges.same("the first TERM", x.termAt(0, 0, 0), 0);
            edges.same("the last TERM", x.termAt(0, 0, 1), 199);
            edges.same("the first TERM is found", x.found(x.term(0, 1)), 1);
            edges.same("the last TERM is found", x.found(x.term(199, 1)), 1);
        });
        edges.sentence(3, "three FIELDS, 0, 1 and 2", () -> {
            QuarryIndex x = new QuarryIndex();
            Make.document(x, 0, 0, Make.row(7), Make.row(8), Make.row(9));
            for (int field = 0; field < 3; field++) {
                edges.same("field " + field, x.termAt(0, field, 0), 7 + field);
            }
        });
        edges.sentence(3, "Writes a TERM behind the others of a FIELD of the OPEN DOCUMENT", () -> {
            QuarryIndex x = new QuarryIndex();
            Make.document(x, 0, 0, Make.row(9));
            Make.document(x, 0, 0, Make.row(3, 1, 3));
            edges.same("the closed one stays", Check.outcome(() -> x.termAt(0, 0, 1)), "throws." + Edges.BOUNDS);
            edges.same("the first place", x.termAt(1, 0, 0), 3);
            edges.same("the second place", x.termAt(1, 0, 1), 1);
            edges.same("the third place", x.termAt(1, 0, 2), 3);
        });
    }

    private void ofClose() {
        edges.sentence(4, "Returns how many DOCUMENTS the BUFFER has then, GONE or not", () -> {
            QuarryIndex x = new QuarryIndex();
            x.open(0, 0);
            edges.same("the first one", x.close(), 1);
            x.remove(0);
            x.open(0, 0);
            edges.same("behind one that is GONE", x.close(), 2);
            x.flush();
            x.open(0, 0);
            edges.same("behind a flush", x.close(), 1);
        });
        edges.sentence(4, "as it is closed, it comes to the BUFFER, and gets a number, from 0 on", () -> {
            QuarryIndex x = new QuarryIndex();
            x.open(0, 0);
            edges.refused("OPEN, it has none", Edges.BOUNDS, x, y -> y.stateOf(0));
            edges.same("nor is it in the BUFFER", x.flush(), 0);
            x.close();
            edges.same("it is in the BUFFER", x.stateOf(0), 1);
            edges.same("and can be flushed", x.flush(), 1);
        });
        edges.sentence(4, "Closes the OPEN DOCUMENT", () -> {
            QuarryIndex x = new QuarryIndex();
            x.open(0, 0);
            x.close();
            edges.refused("it is written no more", Edges.STATE, x, y -> y.write(0, 0));
            edges.refused("nor closed again", Edges.STATE, x, QuarryIndex::close);
        });
    }

    private void ofRemove() {
        edges.sentence(5, "Returns whether it was not GONE yet", () -> {
            QuarryIndex x = new QuarryIndex();
            Make.document(x, 0, 0);
            Make.document(x, 0, 0);
            edges.same("in the BUFFER", x.remove(0), true);
            edges.same("again", x.remove(0), false);
            x.flush();
            edges.same("in a SEGMENT, GONE before", x.remove(0), false);
            edges.same("in a SEGMENT", x.remove(1), true);
            x.compact();
            edges.same("one that lies nowhere", x.remove(1), false);
        });
        edges.sentence(5, "A DOCUMENT that is taken away is GONE", () -> {
            QuarryIndex x = new QuarryIndex();
            Make.flushed(x, 1);
            Make.document(x, 0, 0);
            x.remove(0);
            x.remove(1);
            edges.same("in a SEGMENT", x.stateOf(0), 0);
            edges.same("in the BUFFER", x.stateOf(1), 0);
        });
        edges.sentence(5, "it is never found", () -> {
            QuarryIndex x = new QuarryIndex();
            Make.document(x, 0, 0, Make.row(1));
            Make.document(x, 0, 0, Make.row(1));
            x.flush();
            Make.document(x, 0, 0, Make.row(1));
            x.term(1, 1);
            x.kind(1);
            x.remove(1);
            x.remove(2);
            edges.same("by a TERM", x.found(0), 1);
            edges.same("by a KIND", x.found(1), 1);
            edges.same("its SCORE", x.score(0, 1), -1);
            edges.same("by a search", x.search(0), 1);
            edges.same("by another one", x.like(0), -1);
            x.flush();
            edges.same("GONE ahead of the flush", x.found(0), 1);
        });
        edges.sentence(5, "but still lies where it was", () -> {
            QuarryIndex x = new QuarryIndex();
            Make.document(x, 0, 0, Make.row(1));
            Make.document(x, 0, 0, Make.row(1));
            x.flush();
            x.remove(0);
            edges.same("in its SEGMENT", x.sizeOf(0), 2);
            edges.same("and counts there", x.spread(1, 0), 2);
            Make.document(x, 0, 0);
            x.remove(2);
            edges.same("in the BUFFER", x.flush(), 1);
            edges.same("in a SEGMENT of its own", x.sizeOf(1), 1);
        });
    }

    private void ofMutePlaces() {
        edges.sentence(6, "Returns whether it was", () -> {
            QuarryIndex x = new QuarryIndex();
            for (int term : new int[] {0, 199}) {
                edges.same("at first", x.setMute(term, true), false);
                edges.same("again", x.setMute(term, true), true);
                edges.same("no more", x.setMute(term, false), true);
                edges.same("no more, again", x.setMute(term, false), false);
            }
        });
        edges.sentence(6, "whether it is MUTE from now on", () -> {
            QuarryIndex x = new QuarryIndex();
            x.setMute(0, true);
            Make.flushed(x, 0, 199);
            x.term(0, 1);
            x.term(199, 1);
            edges.same("MUTE ahead of its first DOCUMENT", x.found(0), 0);
            edges.same("another TERM", x.found(1), 1);
            x.setMute(0, false);
            edges.same("no more", x.found(0), 1);
            x.search(1);
            x.setMute(199, true);
            edges.same("MUTE behind a search, which stays", x.results(), 1);
            edges.same("from now on", x.found(1), 0);
            x.setMute(199, true);
            edges.same("said twice", x.found(1), 0);
        });
        edges.sentence(6, "it has its place in a FIELD", () -> {
            QuarryIndex x = new QuarryIndex();
            x.setMute(3, true);
            x.open(0, 0);
            x.write(0, 1);
            edges.same("it is written", x.write(0, 3), 2);
            x.write(0, 2);
            x.close();
            x.flush();
            edges.same("it stands there", x.termAt(0, 0, 1), 3);
            x.term(1, 1);
            x.term(2, 1);
            edges.same("the others are not side by side", x.found(x.near(0, 1, 1, true)), 0);
            edges.same("but two places apart", x.found(x.near(0, 1, 2, true)), 1);
            edges.same("a window has both of them from 3 places on", x.window(0, x.or(0, 1), 0, 3), 0);
        });
        edges.sentence(6, "and counts in lengths", () -> {
            QuarryIndex x = new QuarryIndex();
            Make.document(x, 0, 0, Make.row(1, 3, 3));
            Make.document(x, 0, 0, Make.row(2, 3));
            x.flush();
            x.term(1, 1);
            // RARE 122; l 3, N 2, L 5: 2440 / (13 + 54 / 5)
            edges.same("ahead", x.score(0, 0), 106);
            x.setMute(3, true);
            edges.same("in l and in L", x.score(0, 0), 106);
        });
        edges.sentence(6, "and in n(t, f), RARE(t, f)", () -> {
            QuarryIndex x = new QuarryIndex();
            Make.document(x, 0, 0, Make.row(3));
            Make.document(x, 0, 0);
            Make.document(x, 0, 0);
            x.flush();
            x.setMute(3, true);
            edges.same("n(3, 0)", x.spread(3, 0), 1);
            edges.same("ROOT of 40000 / 2", x.rare(3, 0), 141);
            Make.flushed(x, 3);
            edges.same("written when it is MUTE", x.spread(3, 0), 2);
        });
        edges.sentence(6, "A TERM can be MUTE", () -> {
            QuarryIndex x = new QuarryIndex();
            Make.flushed(x, 1, 2);
            x.term(1, 1);
            x.term(2, 1);
            x.setMute(1, true);
            edges.same("one", x.found(0), 0);
            edges.same("not another one", x.found(1), 1);
            x.setMute(1, false);
            edges.same("no more", x.score(0, 0), 90);
        });
    }

    private void ofMuteFound() {
        edges.sentence(6, "but nobody finds anything by it", () -> {
            QuarryIndex x = new QuarryIndex();
            Make.document(x, 0, 0, Make.row(1, 3), Make.row(3, 1));
            Make.document(x, 0, 0, Make.row(3, 4));
            x.flush();
            x.setAlias(2, 3);
            x.term(3, 7);
            x.term(1, 7);
            x.term(2, 7);
            x.near(1, 0, 5, false);
            x.near(0, 1, 5, false);
            x.near(1, 2, 5, false);
            int[] ahead = {2, 1, 2, 1, 1, 1};
            int[] behind = {0, 1, 0, 0, 0, 0};
            for (int node = 0; node < ahead.length; node++) {
                edges.same("ahead, NODE " + node, x.found(node), ahead[node]);
            }
            edges.same("alike ahead", x.like(0), 1);
            x.setMute(3, true);
            for (int node = 0; node < behind.length; node++) {
                edges.same("NODE " + node, x.found(node), behind[node]);
            }
            edges.same("alike", x.like(0), -1);
            edges.same("a window", x.window(0, 0, 0, 12), -1);
            edges.same("a window by an ALIAS", x.window(0, 2, 0, 12), -1);
            edges.same("a mate", x.mate(4), -1);
        });
    }

    private void ofAlias() {
        edges.sentence(7, "Returns the one before, -1 without one", () -> {
            QuarryIndex x = new QuarryIndex();
            edges.same("without one", x.setAlias(5, 0), -1);
            edges.same("the first TERM", x.setAlias(5, 199), 0);
            edges.same("the last TERM", x.setAlias(5, 199), 199);
            edges.same("of the first TERM", x.setAlias(0, 1), -1);
            edges.same("of the last TERM", x.setAlias(199, 1), -1);
        });
        edges.sentence(7, "its ALIAS from now on, -1 for none", () -> {
            QuarryIndex x = new QuarryIndex();
            Make.document(x, 0, 0, Make.row(1));
            Make.document(x, 0, 0, Make.row(2));
            x.flush();
            x.term(5, 1);
            x.setAlias(5, 1);
            edges.same("one", x.score(0, 0) > 0, true);
            x.setAlias(5, 2);
            edges.same("another one", x.score(0, 1) > 0, true);
            edges.same("the one before no more", x.score(0, 0), -1);
            edges.same("none", x.setAlias(5, -1), 2);
            edges.same("finds none", x.found(0), 0);
            edges.same("there is none", x.setAlias(5, -1), -1);
        });
        edges.sentence(7, "A TERM can have an ALIAS, another TERM", () -> {
            QuarryIndex x = new QuarryIndex();
            Make.document(x, 0, 0, Make.row(0));
            Make.document(x, 0, 0, Make.row(199));
            x.flush();
            x.term(0, 1);
            x.term(199, 1);
            x.setAlias(0, 199);
            edges.same("the last TERM as that of the first", x.found(0), 2);
            x.setAlias(0, -1);
            x.setAlias(199, 0);
            edges.same("the first TERM as that of the last", x.found(1), 2);
        });
    }

    private void ofAliasFound() {
        edges.sentence(7, "who looks for the one finds both", () -> {
            QuarryIndex x = aliases();
            edges.same("both", x.found(0), 2);
            edges.same("the one", x.score(0, 0), x.score(1, 1));
            edges.same("its ALIAS", x.score(0, 1), x.score(1, 1));
        });
        edges.sentence(7, "but not the other way round", () -> {
            QuarryIndex x = aliases();
            edges.same("the ALIAS does not find the one", x.score(1, 0), -1);
            edges.same("nor does that one's own ALIAS", x.found(2), 1);
            Make.flushed(x, 5, 11, 12);
            edges.same("NEAR, by the ALIAS itself", x.found(x.near(3, 1, 2, true)), 1);
            edges.same("NEAR, not by the one", x.found(x.near(3, 1, 1, true)), 0);
            edges.same("a window", x.window(3, 1, 0, 1), 2);
        });
        edges.sentence(7, "and not along two", () -> {
            QuarryIndex x = aliases();
            edges.same("not the ALIAS of the ALIAS", x.score(0, 2), -1);
            edges.same("though that of the second", x.score(1, 2) > 0, true);
            x.setMute(12, true);
            edges.same("nor past a MUTE one", x.score(0, 2), -1);
            x.setAlias(13, 11);
            edges.same("nor round a ring", x.found(2), 2);
            Make.flushed(x, 5, 12, 13, 9, 11);
            edges.same("NEAR, by the TERM itself", x.found(x.near(3, 2, 2, true)), 1);
            edges.same("NEAR, not along two", x.found(x.near(3, 0, 3, true)), 0);
            edges.same("a window by one ALIAS", x.window(3, 1, 0, 1), 2);
            edges.same("a window not along two", x.window(3, 0, 0, 3), 2);
        });
    }

    /** Documents of the TERMS 11, 12 and 13; 12 is the ALIAS of 11, and 13 that of 12. */
    private static QuarryIndex aliases() {
        QuarryIndex x = new QuarryIndex();
        for (int term = 11; term <= 13; term++) {
            Make.document(x, 0, 0, Make.row(term));
            x.term(term, 1);
        }
        x.term(5, 1);
        x.flush();
        x.setAlias(11, 12);
        x.setAlias(12, 13);
        return x;
    }

    private void ofWeight() {
        edges.sentence(8, "(1 to 9; 1 at first)", () -> {
            QuarryIndex x = new QuarryIndex();
            Make.document(x, 0, 0, Make.row(5), Make.row(5), Make.row(5));
            x.flush();
            for (int field = 0; field < 3; field++) {
                int node = x.term(5, 1 << field);
                edges.same("at first, field " + field, x.score(node, 0), 90);
                edges.same("it was 1", x.setWeight(field, 9), 1);
                edges.same("9", x.score(node, 0), 9 * 90);
                edges.same("it was 9", x.setWeight(field, 1), 9);
                edges.same("1 again", x.score(node, 0), 90);
            }
        });
        edges.sentence(8, "its WEIGHT from now on", () -> {
            QuarryIndex x = new QuarryIndex();
            Make.flushed(x, 5);
            x.term(5, 1);
            int[] weights = {9, 1, 5, 4, 4};
            for (int weight : weights) {
                x.setWeight(0, weight);
                edges.same("WEIGHT " + weight, x.score(0, 0), weight * 90);
            }
            x.setWeight(1, 9);
            x.setWeight(2, 9);
            edges.same("those of the other FIELDS", x.score(0, 0), 4 * 90);
        });
        edges.sentence(8, "Returns the one before", () -> {
            QuarryIndex x = new QuarryIndex();
            int before = 1;
            for (int weight = 9; weight >= 1; weight--) {
                edges.same("weight " + weight, x.setWeight(1, weight), before);
                before = weight;
            }
            edges.same("another field has its own", x.setWeight(2, 3), 1);
        });
    }

    private void ofAsked() {
        edges.sentence(9, "Returns how many DOCUMENTS have a number", () -> {
            QuarryIndex x = new QuarryIndex();
            edges.same("none", x.documents(), 0);
            x.open(0, 0);
            edges.same("one that is OPEN has none", x.documents(), 0);
            x.close();
            edges.same("one", x.documents(), 1);
            x.remove(0);
            edges.same("one that is GONE", x.documents(), 1);
            x.flush();
            x.compact();
            edges.same("one that lies nowhere", x.documents(), 1);
            for (int many = 2; many <= 60; many++) {
                Make.document(x, 0, 0);
            }
            edges.same("sixty", x.documents(), 60);
        });
        edges.sentence(10, "Returns 0 GONE, 1 in the BUFFER, 2 in a SEGMENT", () -> {
            QuarryIndex x = new QuarryIndex();
            Make.document(x, 0, 0);
            edges.same("in the BUFFER", x.stateOf(0), 1);
            x.flush();
            edges.same("in a SEGMENT", x.stateOf(0), 2);
            x.compact();
            edges.same("behind a compaction", x.stateOf(0), 2);
            Make.document(x, 0, 0);
            x.flush();
            edges.same("in another SEGMENT", x.stateOf(1), 2);
            Make.document(x, 0, 0);
            x.remove(2);
            edges.same("GONE in the BUFFER", x.stateOf(2), 0);
            x.remove(1);
            edges.same("GONE in a SEGMENT", x.stateOf(1), 0);
            x.compact();
            edges.same("GONE and nowhere", x.stateOf(1), 0);
            edges.same("beside it", x.stateOf(0), 2);
        });
        edges.sentence(11, "a place, from 0 on", () -> {
            QuarryIndex x = new QuarryIndex();
            Make.document(x, 0, 0, Make.row(4, 5), Make.row(6));
            edges.same("the place 0", x.termAt(0, 0, 0), 4);
            edges.same("the place 1", x.termAt(0, 0, 1), 5);
            edges.refused("the place 2", Edges.BOUNDS, x, y -> y.termAt(0, 0, 2));
            edges.refused("the place ahead of 0", Edges.BOUNDS, x, y -> y.termAt(0, 0, -1));
            edges.refused("the place 1 of another FIELD", Edges.BOUNDS, x, y -> y.termAt(0, 1, 1));
            edges.refused("the place 0 of an empty FIELD", Edges.BOUNDS, x, y -> y.termAt(0, 2, 0));
        });
        edges.sentence(11, "Returns the TERM there", () -> {
            QuarryIndex x = new QuarryIndex();
            Make.document(x, 0, 0, Make.row(0), Make.row(), Make.row(199, 1, 1, 1, 1, 1, 1, 1, 1, 1, 1, 198));
            edges.same("the first TERM", x.termAt(0, 0, 0), 0);
            edges.same("the last TERM", x.termAt(0, 2, 0), 199);
            edges.same("the last place", x.termAt(0, 2, 11), 198);
            x.remove(0);
            x.flush();
            x.compact();
            edges.same("of one that is GONE and lies nowhere", x.termAt(0, 2, 11), 198);
        });
    }
}
