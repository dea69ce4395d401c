/** Promises 39 to 45: asking. */
public final class AskingTest {
    private static final Check CHECK = new Check("AskingTest");

    private AskingTest() {
    }

    public static void main(String[] args) {
        promise39Like();
        promise39LikeByFields();
        promise40Mate();
        promise40MateOfSeveral();
        promise41Cost();
        promise42ByAlias();
        promise43WouldScore();
        promise43WouldScoreWithoutGoneOnes();
        promise44Waste();
        promise45DigestOfNew();
        promise45Digest();
        CHECK.end();
    }

    private static void promise39Like() {
        QuarryIndex x = new QuarryIndex();
        CHECK.throwsOutOfBounds("39 none", () -> x.like(0));
        Make.document(x, 0, 0, Make.row(1, 2));
        Make.document(x, 0, 0, Make.row(1));
        Make.document(x, 0, 0, Make.row(2, 3));
        Make.document(x, 0, 0, Make.row(2, 1, 1));
        CHECK.same("39 all in the buffer", x.like(0), -1);
        x.flush();
        CHECK.throwsOutOfBounds("39 document -1", () -> x.like(-1));
        CHECK.throwsOutOfBounds("39 document 4", () -> x.like(4));
        CHECK.same("39 two terms", x.like(0), 3);
        CHECK.same("39 of several the smallest number", x.like(1), 0);
        Make.document(x, 0, 0, Make.row(3));
        CHECK.same("39 one in the buffer may be asked for", x.like(4), 2);
        CHECK.same("39 but is not found", x.like(2), 0);
        x.remove(3);
        CHECK.same("39 not one that is gone", x.like(0), 1);
        CHECK.same("39 a gone one may be asked for", x.like(3), 0);
        x.setMute(2, true);
        CHECK.same("39 a mute term", x.like(2), -1);
        x.setMute(2, false);
        CHECK.same("39 no longer mute", x.like(2), 0);
    }

    private static void promise39LikeByFields() {
        QuarryIndex x = new QuarryIndex();
        Make.document(x, 0, 0, Make.row(1), Make.row(2), Make.row(5));
        Make.document(x, 0, 0, Make.row(2), Make.row(1));
        Make.document(x, 0, 0, Make.row(1));
        Make.document(x, 0, 0, Make.row(1));
        Make.document(x, 0, 0, Make.row(), Make.row(), Make.row(5));
        x.flush();
        // RARE(1, 0) is ROOT(60000 / 4), 122; RARE(5, 2) is ROOT(60000 / 3), 141
        CHECK.same("39 the greatest sum of RARE", x.like(0), 4);
        CHECK.same("39 the same field", x.like(1), -1);
        CHECK.same("39 itself does not count", x.like(2), 0);

        QuarryIndex y = new QuarryIndex();
        Make.document(y, 0, 0, Make.row(1, 1, 1, 2));
        Make.document(y, 0, 0, Make.row(1, 1, 1));
        Make.document(y, 0, 0, Make.row(1, 2));
        y.flush();
        CHECK.same("39 each term once", y.like(0), 2);

        QuarryIndex z = new QuarryIndex();
        Make.flushed(z, 0);
        Make.flushed(z, 199);
        Make.document(z, 0, 0, Make.row(199));
        Make.document(z, 0, 0, Make.row(0));
        z.flush();
        CHECK.same("39 the least term", z.like(0), 3);
        CHECK.same("39 the greatest term", z.like(1), 2);
        z.setMute(0, true);
        CHECK.same("39 the least term, mute", z.like(0), -1);
    }

    private static void promise40Mate() {
        QuarryIndex x = new QuarryIndex();
        CHECK.same("40 without documents", x.mate(0), -1);
        CHECK.throwsIllegalArgument("40 term -1", () -> x.mate(-1));
        CHECK.throwsIllegalArgument("40 term 200", () -> x.mate(200));
        Make.document(x, 0, 0, Make.row(1, 2), Make.row(3));
        Make.document(x, 0, 0, Make.row(2), Make.row(1));
        Make.document(x, 0, 0, Make.row(3, 3), Make.row(3), Make.row(3));
        Make.document(x, 0, 0, Make.row(7));
        CHECK.same("40 in the buffer", x.mate(1), -1);
        x.flush();
        CHECK.same("40 in any field", x.mate(1), 2);
        CHECK.same("40 the other way round", x.mate(2), 1);
        CHECK.same("40 alone", x.mate(7), -1);
        CHECK.same("40 a term that no document has", x.mate(199), -1);
        x.setMute(2, true);
        CHECK.same("40 a mute one is not told", x.mate(1), 3);
        CHECK.throwsIllegalArgument("40 a mute one may not be asked for", () -> x.mate(2));
        x.setMute(2, false);
        x.remove(1);
        CHECK.same("40 not in one that is gone", x.mate(1), 2);
        x.remove(0);
        CHECK.same("40 none is left", x.mate(1), -1);
    }

    private static void promise40MateOfSeveral() {
        QuarryIndex x = new QuarryIndex();
        Make.document(x, 0, 0, Make.row(10, 1, 2, 3));
        Make.document(x, 0, 0, Make.row(1));
        x.flush();
        CHECK.same("40 the one in the fewest, of several the smallest one", x.mate(10), 2);
        Make.flushed(x, 2, 2);
        Make.document(x, 0, 0, Make.row(2));
        CHECK.same("40 the one in the fewest documents", x.mate(10), 3);
        Make.flushed(x, 3);
        CHECK.same("40 two documents each, the smallest term", x.mate(10), 1);
        x.remove(4);
        CHECK.same("40 gone ones count no more", x.mate(10), 3);
        x.remove(1);
        CHECK.same("40 one document each, the smallest term", x.mate(10), 1);
        Make.document(x, 0, 0, Make.row(10, 2));
        x.flush();
        CHECK.same("40 most documents go before the fewest", x.mate(10), 2);

        QuarryIndex y = new QuarryIndex();
        Make.document(y, 0, 0, Make.row(5, 0), Make.row(0, 8), Make.row(199, 0));
        Make.document(y, 0, 0, Make.row(8, 8), Make.row(8), Make.row(199, 5));
        y.flush();
        CHECK.same("40 a term that several fields have counts once", y.mate(5), 8);
        CHECK.same("40 the least term may be told", y.mate(199), 5);
        y.remove(1);
        CHECK.same("40 the least term of several", y.mate(5), 0);
        y.setMute(0, true);
        CHECK.same("40 the least term, mute", y.mate(5), 8);
    }

    private static void promise41Cost() {
        QuarryIndex x = new QuarryIndex();
        Make.document(x, 0, 0, Make.row(1, 1), Make.row(1));
        Make.document(x, 0, 0, Make.row(1, 2), Make.row(2));
        x.flush();
        x.term(1, 1);
        x.term(1, 7);
        x.term(2, 3);
        int and = x.and(0, 2);
        CHECK.throwsOutOfBounds("41 NODE -1", () -> x.cost(-1));
        CHECK.throwsOutOfBounds("41 NODE 4", () -> x.cost(4));
        CHECK.same("41 one field", x.cost(0), 2);
        CHECK.same("41 all fields", x.cost(1), 3);
        CHECK.same("41 both NODES", x.cost(and), 4);
        CHECK.same("41 each NODE once", x.cost(x.or(and, 0)), 4);
        CHECK.same("41 the second one of a NOT too", x.cost(x.not(0, 2)), 4);
        CHECK.same("41 NEAR", x.cost(x.near(0, 1, 1, false)), 5);
        CHECK.same("41 MOST", x.cost(x.most(0, 4, 1)), 7);
        CHECK.same("41 SCALED", x.cost(x.scaled(1, 0)), 3);
        CHECK.same("41 DATED", x.cost(x.dated(0, 1)), 0);
        CHECK.same("41 KIND", x.cost(x.kind(1)), 0);
        x.remove(0);
        CHECK.same("41 gone ones lie there", x.cost(1), 3);
        x.setAlias(1, 2);
        CHECK.same("41 the alias", x.cost(1), 5);
        x.setMute(1, true);
        CHECK.same("41 not of a mute one", x.cost(1), 2);
        x.setMute(2, true);
        CHECK.same("41 nor of a mute alias", x.cost(1), 0);
        x.setMute(1, false);
        CHECK.same("41 the term alone", x.cost(1), 3);
        x.compact();
        CHECK.same("41 less behind a compaction", x.cost(1), 1);
        x.clear();
        x.term(1, 1);
        for (int node = 1; node < 30; node++) {
            x.or(node - 1, 0);
        }
        CHECK.same("41 however deep", x.cost(29), 1);
    }

    private static void promise42ByAlias() {
        QuarryIndex x = new QuarryIndex();
        Make.document(x, 0, 0, Make.row(1));
        Make.document(x, 0, 0, Make.row(2));
        Make.document(x, 0, 0, Make.row(2, 1));
        Make.document(x, 0, 0, Make.row(3, 2));
        x.flush();
        x.term(1, 1);
        x.term(3, 1);
        int near = x.near(1, 0, 1, true);
        int not = x.not(1, 0);
        int scaled = x.scaled(0, 0);
        CHECK.throwsOutOfBounds("42 NODE -1", () -> x.byAlias(-1));
        CHECK.throwsOutOfBounds("42 NODE 5", () -> x.byAlias(5));
        CHECK.same("42 without an alias", x.byAlias(0), 0);
        x.setAlias(1, 2);
        CHECK.same("42 found by the alias alone", x.byAlias(0), 2);
        CHECK.same("42 in another NODE", x.byAlias(scaled), 2);
        CHECK.same("42 NEAR by the alias", x.byAlias(near), 1);
        CHECK.same("42 found without it", x.byAlias(1), 0);
        CHECK.same("42 one that would come does not count", x.byAlias(not), 0);
        x.remove(1);
        CHECK.same("42 not one that is gone", x.byAlias(0), 1);
        x.setMute(2, true);
        CHECK.same("42 a mute alias", x.byAlias(0), 0);
        CHECK.same("42 the alias stays", x.setAlias(1, -1), 2);
        x.setAlias(9, 1);
        CHECK.same("42 the first and the third one", x.byAlias(x.term(9, 7)), 2);
    }

    private static void promise43WouldScore() {
        QuarryIndex x = new QuarryIndex();
        Make.flushed(x, 1, 1, 2);
        Make.document(x, 0, 0, Make.row(2, 3));
        x.term(1, 1);
        x.term(2, 1);
        CHECK.throwsOutOfBounds("43 NODE -1", () -> x.wouldScore(-1, 0));
        CHECK.throwsOutOfBounds("43 NODE 2", () -> x.wouldScore(2, 0));
        CHECK.throwsOutOfBounds("43 document -1", () -> x.wouldScore(0, -1));
        CHECK.throwsOutOfBounds("43 document 2", () -> x.wouldScore(0, 2));
        x.open(0, 0);
        x.write(0, 2);
        CHECK.throwsOutOfBounds("43 an open one", () -> x.wouldScore(0, 2));
        CHECK.same("43 now", x.score(1, 0), 90);
        CHECK.same("43 the first document", x.wouldScore(0, 0), 147);
        CHECK.same("43 a term of both", x.wouldScore(1, 0), 86);
        CHECK.same("43 one in the buffer", x.wouldScore(1, 1), 100);
        CHECK.same("43 not found", x.wouldScore(0, 1), -1);
        CHECK.same("43 the same again", x.wouldScore(0, 0), 147);
        x.setAlias(1, 2);
        CHECK.same("43 by the alias", x.wouldScore(0, 1), 100);
        CHECK.same("43 by both", x.wouldScore(0, 0), 233);
        x.setAlias(1, -1);
        CHECK.same("43 nothing is flushed", x.stateOf(1), 1);
        CHECK.same("43 nothing is changed", x.score(1, 0), 90);
        CHECK.same("43 nor counted", x.spread(2, 0), 1);
    }

    private static void promise43WouldScoreWithoutGoneOnes() {
        QuarryIndex x = new QuarryIndex();
        Make.document(x, 0, 0, Make.row(1, 1, 2));
        Make.document(x, 0, 0, Make.row(2, 3));
        x.flush();
        Make.document(x, 0, 0, Make.row(2));
        x.term(2, 1);
        x.remove(1);
        x.remove(2);
        CHECK.same("43 gone ones count now", x.score(0, 0), 86);
        CHECK.same("43 but would no more", x.wouldScore(0, 0), 90);
        CHECK.same("43 one that is gone", x.wouldScore(0, 1), -1);
        CHECK.same("43 one that is gone, in the buffer", x.wouldScore(0, 2), -1);
        x.flush();
        x.compact();
        CHECK.same("43 what score() tells then", x.score(0, 0), 90);
        x.remove(0);
        CHECK.same("43 none is left", x.wouldScore(0, 0), -1);
    }

    private static void promise44Waste() {
        QuarryIndex x = new QuarryIndex();
        CHECK.same("44 without any", x.waste(), 0.0);
        Make.document(x, 0, 0);
        x.remove(0);
        CHECK.same("44 in the buffer", x.waste(), 0.0);
        Make.document(x, 0, 0);
        Make.document(x, 0, 0);
        x.flush();
        CHECK.same("44 not cut", x.waste(), 1.0 / 3.0);
        x.remove(1);
        x.remove(2);
        CHECK.same("44 all", x.waste(), 1.0);
        x.compact();
        CHECK.same("44 none any more", x.waste(), 0.0);
        Make.flushed(x, 1);
        CHECK.same("44 none of them", x.waste(), 0.0);
        x.remove(3);
        CHECK.same("44 the only one", x.waste(), 1.0);
    }

    private static void promise45DigestOfNew() {
        QuarryIndex x = new QuarryIndex();
        long due = 2609;
        for (int zeros = 0; zeros < 12; zeros++) {
            due *= 31;
        }
        CHECK.same("45 a new object", x.digest(), due);
        x.open(0, 0);
        x.setMute(1, true);
        CHECK.same("45 an open one is not told", x.digest(), due);
    }

    /** 55 documents in four segments and the buffer, and 30 NODES, told in 321 calls. */
    private static void crowd(QuarryIndex x) {
        for (int number = 0; number < 55; number++) {
            Make.document(x, number / 7, number % 8, Make.row(number % 5, number % 3), Make.row(number % 4));
            if (number % 4 == 1) {
                x.flush();
            }
        }
        x.remove(7);
        x.remove(53);
        for (int term = 0; term < 6; term++) {
            x.term(term, 1 + term);
        }
        for (int node = 6; node < 30; node++) {
            if (node % 2 == 0) {
                x.or(node - 6, node - 1);
            } else {
                x.not(node - 1, node - 5);
            }
        }
    }

    private static void promise45Digest() {
        digest("ahead of a search", AskingTest::crowd);
        digest("behind it", x -> {
            crowd(x);
            x.search(20);
        });
        digest("behind a compaction", x -> {
            crowd(x);
            x.search(20);
            x.remove(3);
            x.compact();
        });
        digest("without NODES", x -> {
            crowd(x);
            x.search(20);
            x.clear();
        });
        QuarryIndex x = Edges.made(AskingTest::crowd);
        CHECK.same("45 it changes nothing", x.digest(), x.digest());
    }

    private static void digest(String what, Edges.Recipe state) {
        CHECK.same("45 " + what, Edges.made(state).digest(), Digests.byCalls(state));
    }
}
