/** The edges of promises 19 to 31: queries. */
final class QueryEdges {
    private final Edges edges;

    private QueryEdges(Edges edges) {
        this.edges = edges;
    }

    static void tell(Edges edges) {
        QueryEdges those = new QueryEdges(edges);
        those.ofNodes();
        those.ofTerm();
        those.ofTermFields();
        those.ofTaste();
        those.ofPairs();
        those.ofNot();
        those.ofNearDistance();
        those.ofNearPlaces();
        those.ofNearFields();
        those.ofDatedAndKind();
        those.ofScaled();
        those.ofMost();
        those.ofLimit();
        those.ofClear();
        those.ofScore();
        those.ofFound();
    }

    /** Two documents of field 0, with the scores 147 and -1 for term 1, 86 and 100 for 2, -1 and 122 for 3. */
    private static QuarryIndex two() {
        QuarryIndex x = new QuarryIndex();
        Make.document(x, 10, 1, Make.row(1, 1, 2));
        Make.document(x, 20, 2, Make.row(2, 3));
        x.flush();
        x.term(1, 1);
        x.term(2, 1);
        x.term(3, 1);
        return x;
    }

    private void scores(String what, QuarryIndex x, int node, int... due) {
        for (int document = 0; document < due.length; document++) {
            edges.same(what + ", document " + document, x.score(node, document), due[document]);
        }
    }

    private void ofNodes() {
        edges.sentence(19, "At most 30 NODES, numbered from 0", () -> {
            QuarryIndex x = new QuarryIndex();
            Make.flushed(x, 7);
            for (int node = 0; node < 30; node++) {
                edges.same("its number", x.term(node == 29 ? 7 : 8, 1), node);
            }
            edges.refused("one more", Edges.STATE, x, y -> y.term(7, 1));
            edges.same("thirty", x.nodes(), 30);
            edges.same("the last one finds", x.found(29), 1);
            edges.same("the first one does not", x.found(0), 0);
        });
        edges.sentence(20, "each that has others in it is made of such with smaller numbers", () -> {
            QuarryIndex x = two();
            edges.refused("AND of itself", Edges.BOUNDS, x, y -> y.and(3, 2));
            edges.refused("OR of itself", Edges.BOUNDS, x, y -> y.or(2, 3));
            edges.refused("NOT of itself", Edges.BOUNDS, x, y -> y.not(2, 3));
            edges.refused("NEAR of itself", Edges.BOUNDS, x, y -> y.near(2, 3, 1, false));
            edges.refused("SCALED of itself", Edges.BOUNDS, x, y -> y.scaled(3, 1));
            edges.refused("MOST of itself", Edges.BOUNDS, x, y -> y.most(2, 2, 1));
            edges.same("AND of the one ahead", x.and(2, 2), 3);
            edges.same("OR of the one ahead", x.or(3, 3), 4);
            edges.same("NOT of the one ahead", x.not(4, 0), 5);
            edges.same("SCALED of the one ahead", x.scaled(5, 1), 6);
            edges.same("MOST of the ones ahead", x.most(5, 2, 1), 7);
        });
        for (int promise = 19; promise <= 27; promise++) {
            int one = promise - 19;
            edges.sentence(promise, "Returns its number", () -> {
                QuarryIndex x = new QuarryIndex();
                x.term(1, 1);
                x.term(1, 1);
                for (int node = 2; node < 30; node++) {
                    edges.same("its number", ofSort(x, one), node);
                }
            });
        }
    }

    /** Adds a NODE of the sort that the promise 19 and so many asks for. */
    private static int ofSort(QuarryIndex x, int sort) {
        switch (sort) {
            case 0:
                return x.term(2, 1);
            case 1:
                return x.and(0, 1);
            case 2:
                return x.or(0, 1);
            case 3:
                return x.not(0, 1);
            case 4:
                return x.near(0, 1, 1, false);
            case 5:
                return x.dated(0, 1);
            case 6:
                return x.kind(1);
            case 7:
                return x.scaled(0, 1);
            default:
                return x.most(0, 2, 1);
        }
    }

    private void ofTerm() {
        edges.sentence(19, "those that have the TERM, or its ALIAS", () -> {
            QuarryIndex x = two();
            scores("the TERM", x, 0, 147, -1);
            x.setAlias(1, 3);
            scores("the TERM, or its ALIAS", x, 0, 147, 122);
            scores("a TERM that none has", x, x.term(150, 7), -1, -1);
        });
        edges.sentence(19, "neither counting if MUTE", () -> {
            QuarryIndex x = two();
            x.setAlias(1, 2);
            scores("both", x, 0, 147 + 86, 100);
            x.setMute(1, true);
            scores("the TERM is MUTE", x, 0, 86, 100);
            x.setMute(2, true);
            scores("both are MUTE", x, 0, -1, -1);
            x.setMute(1, false);
            scores("the ALIAS is MUTE", x, 0, 147, -1);
        });
        edges.sentence(19, "with the sum of the TASTES, over these FIELDS, of it and of the ALIAS", () -> {
            QuarryIndex x = new QuarryIndex();
            Make.document(x, 0, 0, Make.row(1, 2), Make.row(2), Make.row(1));
            x.flush();
            x.setAlias(1, 2);
            // of one document alone, each TASTE of one that is there once is 2000 / 22
            edges.same("all FIELDS", x.score(x.term(1, 7), 0), 4 * 90);
            edges.same("both in the FIELD 0", x.score(x.term(1, 1), 0), 2 * 90);
            edges.same("the ALIAS alone in the FIELD 1", x.score(x.term(1, 2), 0), 90);
            edges.same("the TERM alone in the FIELD 2", x.score(x.term(1, 4), 0), 90);
            edges.same("the ALIAS has none", x.score(x.term(2, 7), 0), 2 * 90);
        });
    }

    private void ofTermFields() {
        edges.sentence(19, "in one of the FIELDS it is for (a set of FIELDS: the sum of 1 << f)", () -> {
            QuarryIndex x = new QuarryIndex();
            for (int field = 0; field < 3; field++) {
                int[][] rows = {{}, {}, {}};
                rows[field] = Make.row(5);
                Make.document(x, 0, 0, rows);
            }
            x.flush();
            for (int fields = 1; fields <= 7; fields++) {
                int node = x.term(5, fields);
                for (int field = 0; field < 3; field++) {
                    boolean isFor = (fields & 1 << field) != 0;
                    edges.same("FIELDS " + fields + ", FIELD " + field, x.score(node, field) > 0, isFor);
                }
            }
        });
    }

    private void ofTaste() {
        edges.sentence(19, "is 0, if c is 0", () -> {
            QuarryIndex x = new QuarryIndex();
            Make.document(x, 0, 0, Make.row(1));
            Make.document(x, 0, 0, Make.row(), Make.row(9));
            x.flush();
            // the FIELD 2 is empty everywhere, the FIELD 1 here; RARE 122: 2440 / (13 + 9 * 1 * 2 / 1)
            edges.same("in empty FIELDS", x.score(x.term(1, 7), 0), 78);
            edges.same("in empty FIELDS alone", x.score(x.term(1, 6), 0), -1);
            edges.same("where none has any TERM", x.score(x.term(1, 4), 0), -1);
            x.setAlias(1, 9);
            edges.same("of an ALIAS that is not there", x.score(0, 0), 78);
        });
        edges.sentence(19, "otherwise RARE(t, f) * c * 20 / (10 * c + 3 + 9 * l * N / L(f))", () -> {
            QuarryIndex x = new QuarryIndex();
            Make.document(x, 0, 0, Make.row(1));
            Make.document(x, 0, 0, Make.row(2, 2, 2));
            x.flush();
            x.term(1, 1);
            x.term(2, 1);
            // 122 * 20 / (13 + 18 / 4), and 122 * 3 * 20 / (33 + 54 / 4)
            scores("once", x, 0, 143, -1);
            scores("three times", x, 1, -1, 159);
            QuarryIndex y = new QuarryIndex();
            Make.flushed(y, 1, 1, 1, 1, 1, 1, 1, 1, 1, 1, 1, 1);
            edges.same("twelve times, 24000 / (123 + 9)", y.score(y.term(1, 1), 0), 181);
            QuarryIndex z = new QuarryIndex();
            Make.document(z, 0, 0, Make.row(1));
            for (int number = 1; number < 60; number++) {
                Make.document(z, 0, 0);
            }
            z.flush();
            edges.same("one of sixty, 552 * 20 / (13 + 540)", z.score(z.term(1, 1), 0), 19);
        });
        edges.sentence(19, "/ is cut towards 0", () -> {
            QuarryIndex x = new QuarryIndex();
            Make.document(x, 0, 0, Make.row(1));
            Make.document(x, 0, 0, Make.row(2, 2, 2));
            x.flush();
            x.setWeight(0, 9);
            // 2440 / 17 is 143.5, and is cut ahead of the WEIGHT
            edges.same("a TASTE of 143, 9 times", x.score(x.term(1, 1), 0), 1287);
        });
        edges.sentence(19, "times the WEIGHT of the FIELD", () -> {
            QuarryIndex x = new QuarryIndex();
            Make.document(x, 0, 0, Make.row(5, 6), Make.row(5), Make.row(6));
            x.flush();
            x.setAlias(5, 6);
            x.setWeight(0, 2);
            x.setWeight(1, 9);
            edges.same("each FIELD by its own one", x.score(x.term(5, 7), 0), 2 * 180 + 9 * 90 + 90);
        });
    }

    private void ofPairs() {
        edges.sentence(20, "those that both of its NODES find, with the sum of both SCORES", () -> {
            QuarryIndex x = two();
            scores("both find the first", x, x.and(0, 1), 147 + 86, -1);
            scores("one alone finds each", x, x.and(0, 2), -1, -1);
            int all = x.kind(255);
            scores("with a SCORE of 0", x, x.and(all, 0), 147, -1);
            scores("two SCORES of 0", x, x.and(all, all), 0, 0);
            scores("one NODE twice", x, x.and(1, 1), 172, 200);
        });
        edges.sentence(21, "those that one of them finds, or both, with the sum of the SCORES of those that do", () -> {
            QuarryIndex x = two();
            scores("one or both", x, x.or(0, 1), 147 + 86, 100);
            scores("one each", x, x.or(2, 0), 147, 122);
            int none = x.kind(1);
            scores("neither", x, x.or(none, none), -1, -1);
            scores("one with a SCORE of 0", x, x.or(none, x.kind(255)), 0, 0);
            scores("one NODE twice", x, x.or(1, 1), 172, 200);
        });
    }

    private void ofNot() {
        edges.sentence(22, "those that the first one finds, and the second one does not", () -> {
            QuarryIndex x = two();
            scores("the second one finds the first", x, x.not(1, 0), -1, 100);
            scores("the second one finds both", x, x.not(2, 1), -1, -1);
            scores("the first one finds neither", x, x.not(x.kind(1), 0), -1, -1);
            scores("itself", x, x.not(1, 1), -1, -1);
            scores("a second one with a SCORE of 0", x, x.not(1, x.kind(2)), -1, 100);
        });
        edges.sentence(22, "with the SCORE of the first one", () -> {
            QuarryIndex x = two();
            scores("alone", x, x.not(1, 2), 86, -1);
            scores("a SCORE of 0", x, x.not(x.kind(255), 0), -1, 0);
        });
    }

    /** A full field with 1 at the place 1 and 2 so many places behind it, the other way round in document 1. */
    private static QuarryIndex apart(int places) {
        QuarryIndex x = new QuarryIndex();
        for (int first = 1; first <= 2; first++) {
            int[] row = {9, 9, 9, 9, 9, 9, 9, 9, 9, 9, 9, 9};
            row[1] = first;
            row[1 + places] = 3 - first;
            Make.document(x, 0, 0, row);
        }
        x.flush();
        x.term(1, 1);
        x.term(2, 1);
        return x;
    }

    private void ofNearDistance() {
        edges.sentence(23, "with q - p from -d to d", () -> {
            for (int places = 1; places <= 10; places++) {
                QuarryIndex x = apart(places);
                for (int distance = 1; distance <= 10; distance++) {
                    int due = places <= distance ? 2 : 0;
                    edges.same(places + " places apart, distance " + distance,
                            x.found(x.near(0, 1, distance, false)), due);
                }
            }
        });
        edges.sentence(23, "(from 1 to d, if they are in ORDER)", () -> {
            for (int places = 1; places <= 10; places++) {
                QuarryIndex x = apart(places);
                for (int distance = 1; distance <= 10; distance++) {
                    int node = x.near(0, 1, distance, true);
                    edges.same(places + " places behind, distance " + distance, x.score(node, 0) >= 0,
                            places <= distance);
                    edges.same(places + " places ahead, distance " + distance, x.score(node, 1), -1);
                }
            }
        });
        edges.sentence(23, "of two TERM NODES, a distance d, 1 to 10", () -> {
            QuarryIndex x = new QuarryIndex();
            Make.document(x, 0, 0, Make.row(1, 2, 9, 9, 9, 9, 9, 9, 9, 9, 3, 4));
            x.flush();
            for (int term = 1; term <= 4; term++) {
                x.term(term, 1);
            }
            edges.same("side by side", x.found(x.near(0, 1, 1, true)), 1);
            edges.same("10 places apart", x.found(x.near(0, 2, 10, true)), 1);
            edges.same("10 places up to the last", x.found(x.near(1, 3, 10, true)), 1);
            edges.same("9 are too few", x.found(x.near(0, 2, 9, true)), 0);
            edges.same("11 places apart", x.found(x.near(0, 3, 10, true)), 0);
        });
    }

    private void ofNearPlaces() {
        edges.sentence(23, "and one that the second one looks for at another place q", () -> {
            QuarryIndex x = new QuarryIndex();
            Make.document(x, 0, 0, Make.row(1));
            Make.document(x, 0, 0, Make.row(1, 1));
            Make.document(x, 0, 0, Make.row(2));
            x.flush();
            x.term(1, 1);
            x.term(2, 1);
            int itself = x.near(0, 0, 10, false);
            edges.same("one place is no other one", x.score(itself, 0), -1);
            edges.same("two places", x.score(itself, 1) >= 0, true);
            edges.same("two places in ORDER", x.score(x.near(0, 0, 1, true), 1) >= 0, true);
            x.setAlias(1, 2);
            edges.same("one place for the ALIAS and the TERM", x.score(x.near(0, 1, 10, false), 2), -1);
        });
        edges.sentence(23, "has a TERM that the first one looks for at some place p", () -> {
            QuarryIndex x = new QuarryIndex();
            Make.document(x, 0, 0, Make.row(3, 2, 1));
            x.flush();
            x.term(1, 1);
            x.term(2, 1);
            int ordered = x.near(0, 1, 1, true);
            edges.same("not in ORDER", x.score(ordered, 0), -1);
            x.setAlias(1, 3);
            edges.same("the ALIAS of the first one", x.score(ordered, 0), 3 * 90 + 100);
            x.setAlias(1, -1);
            x.setAlias(2, 1);
            x.term(3, 1);
            edges.same("the ALIAS of the second one", x.score(x.near(3, 1, 2, true), 0), 3 * 90 + 100);
        });
        edges.sentence(23, "MUTE ones not looked for", () -> {
            QuarryIndex x = new QuarryIndex();
            Make.document(x, 0, 0, Make.row(1, 2), Make.row(1, 3));
            x.flush();
            x.setAlias(2, 3);
            x.term(1, 7);
            x.term(2, 7);
            int near = x.near(0, 1, 1, true);
            edges.same("both", x.score(near, 0), 4 * 90 + 200);
            x.setMute(3, true);
            edges.same("a MUTE ALIAS", x.score(near, 0), 3 * 90 + 100);
            x.setMute(3, false);
            x.setMute(2, true);
            edges.same("a MUTE second TERM", x.score(near, 0), 3 * 90 + 100);
            x.setMute(3, true);
            edges.same("both MUTE", x.score(near, 0), -1);
            x.setMute(2, false);
            x.setMute(1, true);
            edges.same("a MUTE first TERM", x.score(near, 0), -1);
        });
    }

    private void ofNearFields() {
        edges.sentence(23, "those that both find", () -> {
            QuarryIndex x = new QuarryIndex();
            Make.document(x, 0, 0, Make.row(1), Make.row(2), Make.row(1, 2));
            x.flush();
            x.term(1, 3);
            x.term(2, 3);
            x.term(5, 7);
            edges.same("both, in no FIELD together", x.score(x.near(0, 1, 10, false), 0), -1);
            edges.same("the first one alone", x.score(x.near(0, 2, 10, false), 0), -1);
            edges.same("the second one alone", x.score(x.near(2, 1, 10, false), 0), -1);
        });
        edges.sentence(23, "if a FIELD for which both are has", () -> {
            for (int first = 1; first <= 7; first++) {
                QuarryIndex x = new QuarryIndex();
                Make.document(x, 0, 0, Make.row(1, 2), Make.row(1, 2), Make.row(1, 2));
                x.flush();
                x.term(1, first);
                for (int second = 1; second <= 7; second++) {
                    int node = x.near(0, x.term(2, second), 1, true);
                    int both = Integer.bitCount(first & second);
                    int sum = 90 * (Integer.bitCount(first) + Integer.bitCount(second));
                    edges.same("FIELDS " + first + " and " + second, x.score(node, 0),
                            both == 0 ? -1 : sum + 100 * both);
                }
            }
        });
        edges.sentence(23, "with the sum of both SCORES, and 100 more for each FIELD in which it is so", () -> {
            QuarryIndex x = new QuarryIndex();
            Make.document(x, 0, 0, Make.row(1, 2, 1, 2), Make.row(2, 1), Make.row(1, 2));
            x.flush();
            // twice in the FIELD 0: 4000 / 32; once in the others: 2000 / 22
            int sum = 2 * (125 + 90 + 90);
            x.term(1, 7);
            x.term(2, 7);
            edges.same("three FIELDS, each once", x.score(x.near(0, 1, 1, false), 0), sum + 300);
            edges.same("two of them in ORDER", x.score(x.near(0, 1, 1, true), 0), sum + 200);
            x.term(2, 2);
            edges.same("one FIELD", x.score(x.near(0, 4, 1, false), 0), 125 + 90 + 90 + 90 + 100);
        });
    }

    private void ofDatedAndKind() {
        edges.sentence(24, "those with a DATE from one to another one, both counted", () -> {
            QuarryIndex x = two();
            scores("from the first one's", x, x.dated(10, 19), 0, -1);
            scores("to the second one's", x, x.dated(11, 20), -1, 0);
            scores("between", x, x.dated(11, 19), -1, -1);
            scores("both", x, x.dated(10, 20), 0, 0);
            scores("one DATE", x, x.dated(20, 20), -1, 0);
            scores("the other way round", x, x.dated(20, 10), -1, -1);
            scores("all", x, x.dated(0, 9999), 0, 0);
        });
        edges.sentence(25, "those with a KIND out of a set (the sum of 1 << k for each KIND k in it)", () -> {
            QuarryIndex x = new QuarryIndex();
            for (int kind = 0; kind < 8; kind++) {
                Make.document(x, 0, kind);
            }
            x.flush();
            for (int kind = 0; kind < 8; kind++) {
                int alone = x.kind(1 << kind);
                edges.same("KIND " + kind, x.score(alone, kind), 0);
                edges.same("KIND " + kind + " alone", x.found(alone), 1);
                int others = x.kind(255 - (1 << kind));
                edges.same("all but KIND " + kind, x.found(others), 7);
                edges.same("not KIND " + kind, x.score(others, kind), -1);
            }
            edges.same("all", x.found(x.kind(255)), 8);
        });
        edges.sentence(25, "both with 0", () -> {
            QuarryIndex x = two();
            scores("KIND", x, x.kind(2), 0, -1);
            scores("DATED", x, x.dated(20, 30), -1, 0);
            edges.same("which is found", x.found(3), 1);
        });
    }

    private void ofScaled() {
        edges.sentence(26, "those that its NODE finds, with SCORE * a / 100, a from 0 to 500", () -> {
            QuarryIndex x = two();
            scores("0", x, x.scaled(0, 0), 0, -1);
            edges.same("0 is found", x.found(3), 1);
            scores("1, cut", x, x.scaled(1, 1), 0, 1);
            scores("99, cut", x, x.scaled(0, 99), 145, -1);
            scores("100", x, x.scaled(0, 100), 147, -1);
            scores("250, cut", x, x.scaled(0, 250), 367, -1);
            scores("500", x, x.scaled(0, 500), 735, -1);
            scores("of a SCORE of 0", x, x.scaled(x.kind(255), 500), 0, 0);
        });
    }

    private void ofMost() {
        edges.sentence(27, "those that at least k of them find", () -> {
            QuarryIndex x = new QuarryIndex();
            for (int kind = 0; kind < 4; kind++) {
                Make.document(x, 0, kind);
                x.kind((1 << kind + 1) - 1);
            }
            x.flush();
            // the document k is found by the NODES k to 3
            for (int many = 2; many <= 4; many++) {
                for (int least = 1; least <= many; least++) {
                    int node = x.most(4 - many, many, least);
                    edges.same(least + " of the last " + many, x.found(node), 4 - least + 1);
                    edges.same("the last document of them", x.score(node, 4 - least), 0);
                }
            }
            edges.same("both of the first two", x.found(x.most(0, 2, 2)), 1);
            edges.same("one of the first two", x.found(x.most(0, 2, 1)), 2);
        });
        edges.sentence(27, "how many these are, one behind the other by their numbers", () -> {
            QuarryIndex x = new QuarryIndex();
            for (int kind = 0; kind < 6; kind++) {
                Make.document(x, 0, kind);
                x.kind(1 << kind);
            }
            x.flush();
            // the document k is found by the NODE k alone
            for (int first = 0; first < 6; first++) {
                for (int many = 2; many <= 4 && first + many <= 6; many++) {
                    int node = x.most(first, many, 1);
                    for (int document = 0; document < 6; document++) {
                        int due = document >= first && document < first + many ? 0 : -1;
                        edges.same(many + " from " + first + ", document " + document, x.score(node, document), due);
                    }
                }
            }
        });
        edges.sentence(27, "with the sum of the SCORES of those that do", () -> {
            QuarryIndex x = two();
            scores("one of three", x, x.most(0, 3, 1), 147 + 86, 100 + 122);
            scores("one of the last two", x, x.most(1, 2, 1), 86, 100 + 122);
            scores("both of the last two", x, x.most(1, 2, 2), -1, 100 + 122);
            scores("all three", x, x.most(0, 3, 3), -1, -1);
            scores("one of four", x, x.most(0, 4, 1), 2 * (147 + 86), 2 * (100 + 122));
        });
        edges.sentence(27, "of two to four NODES and a number k", () -> {
            QuarryIndex x = two();
            edges.same("two", x.most(0, 2, 1), 3);
            edges.same("three", x.most(0, 3, 3), 4);
            edges.same("four", x.most(0, 4, 4), 5);
            edges.refused("one", Edges.ARGUMENT, x, y -> y.most(0, 1, 1));
            edges.refused("five", Edges.ARGUMENT, x, y -> y.most(0, 5, 1));
        });
    }

    private void ofLimit() {
        edges.sentence(26, "each with a SCORE (1000000, if it would be more)", () -> {
            QuarryIndex x = two();
            int[] due = {500, 2500, 12500, 62500, 312500};
            int node = 1;
            for (int times = 0; times < 5; times++) {
                node = x.scaled(node, 500);
                edges.same("5 times", x.score(node, 1), due[times]);
            }
            int less = x.scaled(node, 319);
            int million = x.scaled(node, 320);
            int one = x.scaled(1, 1);
            edges.same("less", x.score(x.and(less, 4), 1), 996875 + 2500);
            edges.same("as much", x.score(million, 1), 1000000);
            edges.same("1", x.score(one, 1), 1);
            edges.same("1 more, AND", x.score(x.and(million, one), 1), 1000000);
            edges.same("1 more, OR", x.score(x.or(one, million), 1), 1000000);
            edges.same("1 more, MOST", x.score(x.most(million, 2, 1), 1), 1000000);
            int much = x.scaled(million, 500);
            edges.same("5 times as much, SCALED", x.score(much, 1), 1000000);
            edges.same("a half of it", x.score(x.scaled(much, 50), 1), 500000);
            edges.same("NOT", x.score(x.not(much, 0), 1), 1000000);
            int sum = x.and(much, much);
            edges.same("four times as much, MOST", x.score(x.most(sum - 3, 4, 1), 1), 1000000);
            x.search(sum);
            edges.same("as a RESULT", x.scoreAt(0), 1000000);
        });
    }

    private void ofClear() {
        edges.sentence(28, "Returns how many there were", () -> {
            QuarryIndex x = new QuarryIndex();
            edges.same("none", x.clear(), 0);
            x.kind(1);
            edges.same("one", x.clear(), 1);
            edges.same("none any more", x.clear(), 0);
            QuarryIndex y = Edges.made(Stock::thirty);
            edges.same("thirty", y.clear(), 30);
        });
        edges.sentence(28, "Drops all NODES", () -> {
            QuarryIndex x = Edges.made(Stock::thirty);
            x.clear();
            edges.same("none", x.nodes(), 0);
            edges.refused("the first one", Edges.BOUNDS, x, y -> y.found(0));
            edges.refused("the last one", Edges.BOUNDS, x, y -> y.cost(29));
            for (int node = 0; node < 30; node++) {
                edges.same("from 0 on again", x.kind(255), node);
            }
        });
        edges.sentence(28, "RESULTS stay", () -> {
            QuarryIndex x = two();
            x.search(1);
            x.clear();
            edges.same("how many", x.results(), 2);
            edges.same("the first one", x.resultAt(0), 1);
            edges.same("its SCORE", x.scoreAt(0), 100);
            edges.same("the second one", x.resultAt(1), 0);
            edges.same("by KIND", x.ofKind(2), 1);
            edges.same("by DATES", x.ofDates(10, 1), 1);
        });
        edges.sentence(29, "Returns how many NODES there are", () -> {
            QuarryIndex x = new QuarryIndex();
            for (int many = 0; many < 30; many++) {
                edges.same("so many", x.nodes(), many);
                x.kind(1);
            }
            edges.same("thirty", x.nodes(), 30);
            edges.refused("no more", Edges.STATE, x, y -> y.kind(1));
            edges.same("still thirty", x.nodes(), 30);
        });
    }

    private void ofScore() {
        edges.sentence(30, "Returns the SCORE that the NODE finds it with now", () -> {
            QuarryIndex x = two();
            edges.same("at first", x.score(1, 0), 86);
            x.setWeight(0, 2);
            edges.same("with another WEIGHT", x.score(1, 0), 172);
            x.setWeight(0, 1);
            x.remove(1);
            edges.same("beside one that is GONE", x.score(1, 0), 86);
            x.compact();
            edges.same("behind a compaction", x.score(1, 0), 90);
            Make.flushed(x, 9);
            // N 2, n 1, L 4: 2440 / (13 + 54 / 4)
            edges.same("behind a flush", x.score(1, 0), 93);
        });
        edges.sentence(30, "-1 if it does not find it", () -> {
            QuarryIndex x = two();
            edges.same("without the TERM", x.score(0, 1), -1);
            int all = x.kind(255);
            edges.same("0 is another answer", x.score(all, 1), 0);
            x.remove(1);
            edges.same("GONE", x.score(all, 1), -1);
            Make.document(x, 0, 0);
            edges.same("in the BUFFER", x.score(all, 2), -1);
            x.compact();
            edges.same("GONE and nowhere", x.score(all, 1), -1);
            x.flush();
            edges.same("in a SEGMENT", x.score(all, 2), 0);
        });
    }

    private void ofFound() {
        edges.sentence(31, "Returns how many DOCUMENTS it finds now", () -> {
            QuarryIndex x = new QuarryIndex();
            x.kind(1);
            edges.same("without DOCUMENTS", x.found(0), 0);
            for (int number = 0; number < 60; number++) {
                Make.document(x, 0, 0);
            }
            edges.same("in the BUFFER", x.found(0), 0);
            x.flush();
            edges.same("sixty", x.found(0), 60);
            x.remove(0);
            x.remove(59);
            edges.same("without those that are GONE", x.found(0), 58);
        });
        edges.sentence(31, "What a NODE FINDS are DOCUMENTS in SEGMENTS that are not GONE", () -> {
            for (int sort = 0; sort < 9; sort++) {
                QuarryIndex x = new QuarryIndex();
                for (int number = 0; number < 4; number++) {
                    Make.document(x, 1, 0, Make.row(1, 1, 2));
                    if (number == 2) {
                        x.flush();
                    }
                }
                x.remove(1);
                x.term(1, 1);
                x.term(sort == 3 ? 3 : 1, 1);
                int node = ofSort(x, sort);
                edges.same("sort " + sort + ", in a SEGMENT", x.score(node, 0) >= 0, true);
                edges.same("sort " + sort + ", GONE", x.score(node, 1), -1);
                edges.same("sort " + sort + ", in the BUFFER", x.score(node, 3), -1);
                edges.same("sort " + sort, x.found(node), 2);
            }
        });
    }
}
