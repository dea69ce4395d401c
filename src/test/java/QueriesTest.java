/** Promises 19 to 31: queries. */
public final class QueriesTest {
    private static final Check CHECK = new Check("QueriesTest");

    private QueriesTest() {
    }

    public static void main(String[] args) {
        promise19Term();
        promise19TermByFields();
        promise19TermByAlias();
        promise19TermAtTheEdges();
        promise20And();
        promise21Or();
        promise22Not();
        promise23Near();
        promise23NearDistances();
        promise23NearFields();
        promise24Dated();
        promise25Kind();
        promise26Scaled();
        promise26ScoreLimit();
        promise27Most();
        promise28Clear();
        promise29Nodes();
        promises19To27AtThirty();
        promise30Score();
        promise31Found();
        CHECK.end();
    }

    /** Two documents of field 0, with the scores 147 and -1 for term 1, 86 and 100 for 2, -1 and 122 for 3. */
    private static QuarryIndex two() {
        QuarryIndex x = new QuarryIndex();
        Make.document(x, 10, 1, Make.row(1, 1, 2));
        Make.document(x, 20, 2, Make.row(2, 3));
        x.flush();
        x.term(1, 1);
        x.term(2, 1);
        x.term(3, 1);
        return x;
    }

    private static void scores(String what, QuarryIndex x, int node, int first, int second) {
        CHECK.same(what + ", first document", x.score(node, 0), first);
        CHECK.same(what + ", second document", x.score(node, 1), second);
    }

    private static void promise19Term() {
        QuarryIndex x = two();
        scores("19 term 1", x, 0, 147, -1);
        scores("19 term 2", x, 1, 86, 100);
        scores("19 term 3", x, 2, -1, 122);
        CHECK.throwsIllegalArgument("19 term -1", () -> x.term(-1, 1));
        CHECK.throwsIllegalArgument("19 term 200", () -> x.term(200, 1));
        CHECK.throwsIllegalArgument("19 fields 0", () -> x.term(0, 0));
        CHECK.throwsIllegalArgument("19 fields 8", () -> x.term(0, 8));
        CHECK.throwsIllegalArgument("19 fields -1", () -> x.term(0, -1));
        CHECK.same("19 nothing was added", x.nodes(), 3);
        CHECK.same("19 the greatest term, all fields", x.term(199, 7), 3);
        CHECK.same("19 the least term", x.term(0, 1), 4);
        x.setMute(2, true);
        scores("19 a mute term", x, 1, -1, -1);
        scores("19 beside a mute term", x, 0, 147, -1);
    }

    private static void promise19TermByFields() {
        QuarryIndex x = new QuarryIndex();
        Make.document(x, 0, 0, Make.row(5), Make.row(5, 6), Make.row(7));
        x.flush();
        // of one document l is L: 2000 / (13 + 9) is 90 in each field
        x.term(5, 1);
        x.term(5, 2);
        x.term(5, 4);
        x.term(5, 7);
        int[] due = {90, 90, -1, 180};
        for (int node = 0; node < due.length; node++) {
            CHECK.same("19 fields of node " + node, x.score(node, 0), due[node]);
        }
    }

    private static void promise19TermByAlias() {
        QuarryIndex x = two();
        x.setAlias(1, 2);
        scores("19 the alias too", x, 0, 147 + 86, 100);
        x.setMute(1, true);
        scores("19 a mute term with an alias", x, 0, 86, 100);
        x.setMute(1, false);
        x.setMute(2, true);
        scores("19 a mute alias", x, 0, 147, -1);
        scores("19 the alias itself, mute", x, 1, -1, -1);
        x.setMute(2, false);
        scores("19 not the other way round", x, 1, 86, 100);
        x.setAlias(1, -1);
        scores("19 without the alias again", x, 0, 147, -1);
    }

    private static void promise19TermAtTheEdges() {
        QuarryIndex x = new QuarryIndex();
        Make.document(x, 0, 0, Make.row(0, 199));
        x.flush();
        x.term(0, 1);
        x.term(199, 1);
        CHECK.same("19 the least term is found", x.score(0, 0) > 0, true);
        CHECK.same("19 the greatest term is found", x.score(1, 0), x.score(0, 0));
        CHECK.same("19 both are near", x.score(x.near(0, 1, 1, true), 0), 2 * x.score(0, 0) + 100);
        x.term(7, 1);
        x.setAlias(7, 0);
        CHECK.same("19 the least term as an alias", x.score(3, 0), x.score(0, 0));
        x.setAlias(0, 199);
        CHECK.same("19 the least term's alias", x.score(0, 0), 2 * x.score(1, 0));
        x.setMute(0, true);
        CHECK.same("19 the least term, mute", x.score(3, 0), -1);
        x.setMute(199, true);
        CHECK.same("19 the greatest term, mute", x.score(1, 0), -1);
    }

    private static void promise20And() {
        QuarryIndex x = two();
        CHECK.same("20 its number", x.and(0, 1), 3);
        scores("20 both", x, 3, 233, -1);
        scores("20 none has both", x, x.and(0, 2), -1, -1);
        scores("20 one NODE twice", x, x.and(1, 1), 172, 200);
        CHECK.throwsOutOfBounds("20 one is -1", () -> x.and(-1, 0));
        CHECK.throwsOutOfBounds("20 other is -1", () -> x.and(0, -1));
        CHECK.throwsOutOfBounds("20 itself", () -> x.and(0, 6));
        CHECK.throwsOutOfBounds("20 itself first", () -> x.and(6, 0));
        CHECK.same("20 nothing was added", x.nodes(), 6);
    }

    private static void promise21Or() {
        QuarryIndex x = two();
        CHECK.same("21 its number", x.or(0, 1), 3);
        scores("21 one or both", x, 3, 233, 100);
        scores("21 each one of them", x, x.or(0, 2), 147, 122);
        int none = x.term(9, 7);
        scores("21 neither", x, x.or(none, none), -1, -1);
        CHECK.throwsOutOfBounds("21 one is -1", () -> x.or(-1, 0));
        CHECK.throwsOutOfBounds("21 other is too great", () -> x.or(0, 7));
    }

    private static void promise22Not() {
        QuarryIndex x = two();
        CHECK.same("22 its number", x.not(1, 0), 3);
        scores("22 the first without the second", x, 3, -1, 100);
        scores("22 the other way round", x, x.not(0, 1), -1, -1);
        scores("22 the second finds nothing here", x, x.not(0, 2), 147, -1);
        scores("22 without itself", x, x.not(0, 0), -1, -1);
        CHECK.throwsOutOfBounds("22 one is -1", () -> x.not(-1, 0));
        CHECK.throwsOutOfBounds("22 other is too great", () -> x.not(0, 7));
    }

    private static void promise23Near() {
        QuarryIndex x = two();
        CHECK.same("23 its number", x.near(0, 1, 1, true), 3);
        scores("23 in order", x, 3, 333, -1);
        scores("23 not in order", x, x.near(1, 0, 1, true), -1, -1);
        scores("23 without an order", x, x.near(1, 0, 1, false), 333, -1);
        scores("23 one NODE twice, at two places", x, x.near(0, 0, 1, true), 394, -1);
        scores("23 another place", x, x.near(1, 1, 10, false), -1, -1);
        scores("23 both are to be found", x, x.near(0, 2, 10, false), -1, -1);
        scores("23 the second document", x, x.near(1, 2, 1, true), -1, 322);
        CHECK.throwsOutOfBounds("23 one is -1", () -> x.near(-1, 0, 1, true));
        CHECK.throwsOutOfBounds("23 other is too great", () -> x.near(0, 10, 0, true));
        CHECK.throwsIllegalArgument("23 distance 0", () -> x.near(0, 1, 0, false));
        CHECK.throwsIllegalArgument("23 distance 11", () -> x.near(0, 1, 11, false));
        CHECK.throwsIllegalArgument("23 the first is no TERM NODE", () -> x.near(3, 1, 1, false));
        CHECK.throwsIllegalArgument("23 the second is no TERM NODE", () -> x.near(0, 3, 1, false));
        CHECK.same("23 nothing was added", x.nodes(), 10);
        x.setMute(1, true);
        scores("23 a mute one is not looked for", x, 3, -1, -1);
    }

    private static void promise23NearDistances() {
        QuarryIndex x = new QuarryIndex();
        Make.document(x, 0, 0, Make.row(1, 9, 9, 9, 9, 9, 9, 9, 9, 9, 2, 9));
        Make.document(x, 0, 0, Make.row(2, 9, 9, 1));
        Make.document(x, 0, 0, Make.row(3, 4));
        x.flush();
        x.term(1, 1);
        x.term(2, 1);
        int[] distances = {2, 3, 9, 10};
        int[] dueInOrder = {0, 0, 0, 1};
        int[] dueFree = {0, 1, 1, 2};
        for (int index = 0; index < distances.length; index++) {
            int ordered = x.near(0, 1, distances[index], true);
            int free = x.near(0, 1, distances[index], false);
            CHECK.same("23 in order, distance " + distances[index], x.found(ordered), dueInOrder[index]);
            CHECK.same("23 distance " + distances[index], x.found(free), dueFree[index]);
        }
        x.setAlias(1, 3);
        x.setAlias(2, 4);
        CHECK.same("23 aliases of both", x.score(3, 2) >= 100, true);
        x.setMute(4, true);
        CHECK.same("23 a mute alias", x.score(3, 2), -1);
    }

    private static void promise23NearFields() {
        QuarryIndex x = new QuarryIndex();
        Make.document(x, 0, 0, Make.row(1, 2), Make.row(2, 1), Make.row(1));
        x.flush();
        x.term(1, 7);
        x.term(2, 3);
        x.term(2, 2);
        x.term(1, 4);
        // each TASTE here is 90: the document is alone
        CHECK.same("23 in two fields", x.score(x.near(0, 1, 1, false), 0), 5 * 90 + 200);
        CHECK.same("23 in order, in one of them", x.score(x.near(0, 1, 1, true), 0), 5 * 90 + 100);
        CHECK.same("23 a field for which both are", x.score(x.near(0, 2, 1, false), 0), 4 * 90 + 100);
        CHECK.same("23 no field for which both are", x.score(x.near(2, 3, 1, false), 0), -1);
    }

    private static void promise24Dated() {
        QuarryIndex x = two();
        CHECK.same("24 its number", x.dated(10, 19), 3);
        scores("24 the first date counts", x, 3, 0, -1);
        scores("24 the last date counts", x, x.dated(11, 20), -1, 0);
        scores("24 all dates", x, x.dated(0, 9999), 0, 0);
        scores("24 one date", x, x.dated(10, 10), 0, -1);
        scores("24 from behind to", x, x.dated(20, 10), -1, -1);
        CHECK.throwsIllegalArgument("24 from -1", () -> x.dated(-1, 0));
        CHECK.throwsIllegalArgument("24 from 10000", () -> x.dated(10000, 0));
        CHECK.throwsIllegalArgument("24 to -1", () -> x.dated(0, -1));
        CHECK.throwsIllegalArgument("24 to 10000", () -> x.dated(0, 10000));
    }

    private static void promise25Kind() {
        QuarryIndex x = two();
        CHECK.same("25 its number", x.kind(1 << 1), 3);
        scores("25 the first kind", x, 3, 0, -1);
        scores("25 two kinds", x, x.kind(1 << 1 | 1 << 2), 0, 0);
        scores("25 other kinds", x, x.kind(255 - 6), -1, -1);
        scores("25 all kinds", x, x.kind(255), 0, 0);
        CHECK.throwsIllegalArgument("25 no kinds", () -> x.kind(0));
        CHECK.throwsIllegalArgument("25 too many", () -> x.kind(256));
        CHECK.throwsIllegalArgument("25 below", () -> x.kind(-1));
    }

    private static void promise26Scaled() {
        QuarryIndex x = two();
        CHECK.same("26 its number", x.scaled(0, 250), 3);
        scores("26 cut", x, 3, 367, -1);
        scores("26 by 0 it is found", x, x.scaled(0, 0), 0, -1);
        scores("26 by 100", x, x.scaled(1, 100), 86, 100);
        scores("26 by 500", x, x.scaled(1, 500), 430, 500);
        CHECK.throwsOutOfBounds("26 no NODE", () -> x.scaled(7, 501));
        CHECK.throwsOutOfBounds("26 NODE -1", () -> x.scaled(-1, 1));
        CHECK.throwsIllegalArgument("26 parts -1", () -> x.scaled(0, -1));
        CHECK.throwsIllegalArgument("26 parts 501", () -> x.scaled(0, 501));
    }

    private static void promise26ScoreLimit() {
        QuarryIndex x = two();
        int node = 0;
        int[] due = {735, 3675, 18375, 91875, 459375, 1000000, 1000000};
        for (int index = 0; index < due.length; index++) {
            node = x.scaled(node, 500);
            CHECK.same("26 times 5, " + (index + 1), x.score(node, 0), due[index]);
        }
        CHECK.same("26 a half of the limit", x.score(x.scaled(node, 50), 0), 500000);
        CHECK.same("26 the limit twice, AND", x.score(x.and(node, node), 0), 1000000);
        CHECK.same("26 the limit twice, OR", x.score(x.or(node, 0), 0), 1000000);
        CHECK.same("26 the limit twice, MOST", x.score(x.most(node - 1, 2, 1), 0), 1000000);
    }

    private static void promise27Most() {
        QuarryIndex x = two();
        CHECK.same("27 its number", x.most(0, 3, 1), 3);
        scores("27 at least one", x, 3, 233, 222);
        scores("27 at least two", x, x.most(0, 3, 2), 233, 222);
        scores("27 all three", x, x.most(0, 3, 3), -1, -1);
        scores("27 two of two", x, x.most(1, 2, 2), -1, 222);
        scores("27 four", x, x.most(0, 4, 3), 466, 444);
        CHECK.throwsOutOfBounds("27 first is -1", () -> x.most(-1, 2, 1));
        CHECK.throwsOutOfBounds("27 first is no NODE", () -> x.most(8, 1, 0));
        CHECK.throwsOutOfBounds("27 one of the others is none", () -> x.most(7, 2, 1));
        CHECK.throwsOutOfBounds("27 the bounds are named first", () -> x.most(0, 9, 0));
        CHECK.throwsOutOfBounds("27 far off", () -> x.most(7, Integer.MAX_VALUE, 1));
        CHECK.throwsIllegalArgument("27 one", () -> x.most(0, 1, 1));
        CHECK.throwsIllegalArgument("27 none", () -> x.most(0, 0, 1));
        CHECK.throwsIllegalArgument("27 fewer than none", () -> x.most(0, Integer.MIN_VALUE, 1));
        CHECK.throwsIllegalArgument("27 five", () -> x.most(0, 5, 1));
        CHECK.throwsIllegalArgument("27 least is 0", () -> x.most(0, 3, 0));
        CHECK.throwsIllegalArgument("27 least is too great", () -> x.most(0, 3, 4));
        CHECK.same("27 up to the last NODE", x.most(4, 4, 4), 8);
    }

    private static void promise28Clear() {
        QuarryIndex x = two();
        x.search(0);
        CHECK.same("28 how many there were", x.clear(), 3);
        CHECK.same("28 none is left", x.nodes(), 0);
        CHECK.throwsOutOfBounds("28 the first is none", () -> x.found(0));
        CHECK.same("28 RESULTS stay", x.results(), 1);
        CHECK.same("28 and their scores", x.scoreAt(0), 147);
        CHECK.same("28 there were none", x.clear(), 0);
        CHECK.same("28 from 0 on again", x.term(2, 1), 0);
        scores("28 the new one", x, 0, 86, 100);
    }

    private static void promise29Nodes() {
        QuarryIndex x = new QuarryIndex();
        CHECK.same("29 none", x.nodes(), 0);
        x.kind(1);
        x.or(0, 0);
        CHECK.same("29 two", x.nodes(), 2);
    }

    private static void promises19To27AtThirty() {
        QuarryIndex x = new QuarryIndex();
        for (int node = 0; node < 30; node++) {
            CHECK.same("19 number " + node, x.term(node, 7), node);
        }
        CHECK.throwsIllegalState("19 there are 30", () -> x.term(0, 1));
        CHECK.throwsIllegalState("20 there are 30", () -> x.and(0, 29));
        CHECK.throwsIllegalState("21 there are 30", () -> x.or(0, 29));
        CHECK.throwsIllegalState("22 there are 30", () -> x.not(0, 29));
        CHECK.throwsIllegalState("23 there are 30", () -> x.near(0, 29, 10, true));
        CHECK.throwsIllegalState("24 there are 30", () -> x.dated(0, 1));
        CHECK.throwsIllegalState("25 there are 30", () -> x.kind(1));
        CHECK.throwsIllegalState("26 there are 30", () -> x.scaled(29, 500));
        CHECK.throwsIllegalState("27 there are 30", () -> x.most(26, 4, 4));
        CHECK.throwsIllegalArgument("19 the argument is named first", () -> x.term(200, 1));
        CHECK.throwsOutOfBounds("20 the bounds are named first", () -> x.and(0, 30));
        CHECK.throwsOutOfBounds("21 the bounds are named first", () -> x.or(30, 0));
        CHECK.throwsOutOfBounds("22 the bounds are named first", () -> x.not(0, 30));
        CHECK.throwsOutOfBounds("23 the bounds are named first", () -> x.near(0, 30, 0, true));
        CHECK.throwsIllegalArgument("23 the argument is named second", () -> x.near(0, 1, 0, true));
        CHECK.throwsIllegalArgument("24 the argument is named first", () -> x.dated(0, -1));
        CHECK.throwsIllegalArgument("25 the argument is named first", () -> x.kind(0));
        CHECK.throwsOutOfBounds("26 the bounds are named first", () -> x.scaled(30, 501));
        CHECK.throwsIllegalArgument("26 the argument is named second", () -> x.scaled(0, 501));
        CHECK.throwsOutOfBounds("27 the bounds are named first at 30", () -> x.most(27, 4, 0));
        CHECK.throwsIllegalArgument("27 the argument is named second", () -> x.most(0, 2, 0));
        CHECK.same("29 thirty", x.nodes(), 30);
        CHECK.same("28 thirty", x.clear(), 30);
    }

    private static void promise30Score() {
        QuarryIndex x = two();
        Make.document(x, 0, 0, Make.row(1));
        CHECK.same("30 one in the buffer", x.score(0, 2), -1);
        CHECK.throwsOutOfBounds("30 NODE -1", () -> x.score(-1, 0));
        CHECK.throwsOutOfBounds("30 NODE 3", () -> x.score(3, 0));
        CHECK.throwsOutOfBounds("30 document -1", () -> x.score(0, -1));
        CHECK.throwsOutOfBounds("30 document 3", () -> x.score(0, 3));
        x.remove(1);
        scores("30 as it is now", x, 1, 86, -1);
        x.compact();
        // alone: 2000 / (13 + 9 * 3 * 1 / 3)
        scores("30 behind a compaction", x, 1, 90, -1);

        QuarryIndex y = new QuarryIndex();
        Make.flushed(y, 3);
        int node = y.term(3, 1);
        for (int many = 0; many < 28; many++) {
            node = y.or(node, node);
        }
        CHECK.same("30 a NODE that is in others again and again", y.score(node, 0), 1000000);
    }

    private static void promise31Found() {
        QuarryIndex x = two();
        CHECK.throwsOutOfBounds("31 NODE -1", () -> x.found(-1));
        CHECK.throwsOutOfBounds("31 NODE 3", () -> x.found(3));
        CHECK.same("31 one", x.found(0), 1);
        CHECK.same("31 two", x.found(1), 2);
        CHECK.same("31 a score of 0 is found", x.found(x.scaled(1, 0)), 2);
        CHECK.same("31 none", x.found(x.term(77, 7)), 0);
        Make.document(x, 0, 0, Make.row(1));
        CHECK.same("31 not in the buffer", x.found(0), 1);
        x.flush();
        CHECK.same("31 in a segment", x.found(0), 2);
        x.remove(0);
        CHECK.same("31 not one that is gone", x.found(0), 1);
    }
}
