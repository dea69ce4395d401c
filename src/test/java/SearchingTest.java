/** Promises 32 to 38: searching. */
public final class SearchingTest {
    private static final Check CHECK = new Check("SearchingTest");

    private SearchingTest() {
    }

    public static void main(String[] args) {
        promise32Search();
        promise32SearchOrder();
        promise33Results();
        promise34ResultAt();
        promise35ScoreAt();
        promise36OfKind();
        promise37OfDates();
        promise38Window();
        promise38WindowOfNodes();
        promise38WindowExceptions();
        CHECK.end();
    }

    /** Four documents that the NODE 0 finds, the best first: 3 (108), 1 and 2 (100, date 7), 0 (100, date 3). */
    private static QuarryIndex four() {
        QuarryIndex x = new QuarryIndex();
        Make.document(x, 3, 1, Make.row(5));
        Make.document(x, 7, 2, Make.row(5));
        Make.document(x, 7, 2, Make.row(5));
        Make.document(x, 0, 7, Make.row(5, 5));
        x.flush();
        x.term(5, 1);
        return x;
    }

    private static String told(QuarryIndex x) {
        StringBuilder told = new StringBuilder();
        for (int place = 0; place < x.results(); place++) {
            told.append(x.resultAt(place)).append('=').append(x.scoreAt(place)).append(' ');
        }
        return told.toString().trim();
    }

    private static void promise32Search() {
        QuarryIndex x = four();
        CHECK.throwsOutOfBounds("32 NODE -1", () -> x.search(-1));
        CHECK.throwsOutOfBounds("32 NODE 1", () -> x.search(1));
        CHECK.same("32 how many", x.search(0), 4);
        CHECK.same("32 in their order", told(x), "3=108 1=100 2=100 0=100");
        CHECK.throwsOutOfBounds("32 a wrong search", () -> x.search(1));
        CHECK.same("32 changes nothing", told(x), "3=108 1=100 2=100 0=100");
        x.remove(3);
        CHECK.same("32 they stay", told(x), "3=108 1=100 2=100 0=100");
        x.compact();
        x.clear();
        x.setMute(5, true);
        CHECK.same("32 whatever comes", told(x), "3=108 1=100 2=100 0=100");
        x.term(5, 1);
        CHECK.same("32 the next search", x.search(0), 0);
        CHECK.same("32 has its own ones", told(x), "");
    }

    private static void promise32SearchOrder() {
        QuarryIndex x = new QuarryIndex();
        int[] dates = {5, 9, 0, 9, 5, 1};
        for (int date : dates) {
            Make.document(x, date, 0, Make.row(1));
        }
        Make.document(x, 99, 0, Make.row(1));
        x.remove(2);
        x.flush();
        Make.document(x, 99, 0, Make.row(1));
        x.kind(1);
        CHECK.same("32 neither gone nor in the buffer", x.search(0), 6);
        CHECK.same("32 the later date, the smaller number", told(x), "6=0 1=0 3=0 0=0 4=0 5=0");
    }

    private static void promise33Results() {
        QuarryIndex x = four();
        CHECK.same("33 ahead of the first search", x.results(), 0);
        x.search(0);
        CHECK.same("33 behind it", x.results(), 4);
        x.search(x.term(6, 7));
        CHECK.same("33 none", x.results(), 0);
    }

    private static void promise34ResultAt() {
        QuarryIndex x = four();
        CHECK.throwsOutOfBounds("34 ahead of the first search", () -> x.resultAt(0));
        x.search(0);
        CHECK.same("34 the best one", x.resultAt(0), 3);
        CHECK.same("34 the last one", x.resultAt(3), 0);
        CHECK.throwsOutOfBounds("34 place 4", () -> x.resultAt(4));
        CHECK.throwsOutOfBounds("34 place -1", () -> x.resultAt(-1));
        x.search(x.term(6, 7));
        CHECK.throwsOutOfBounds("34 none any more", () -> x.resultAt(0));
    }

    private static void promise35ScoreAt() {
        QuarryIndex x = four();
        CHECK.throwsOutOfBounds("35 ahead of the first search", () -> x.scoreAt(0));
        x.search(0);
        x.setWeight(0, 9);
        CHECK.same("35 as it was found", x.scoreAt(0), 108);
        CHECK.same("35 it is another one now", x.score(0, 3), 972);
        CHECK.throwsOutOfBounds("35 place 4", () -> x.scoreAt(4));
        CHECK.throwsOutOfBounds("35 place -1", () -> x.scoreAt(-1));
        x.search(0);
        CHECK.same("35 behind another search", x.scoreAt(0), 972);
    }

    private static void promise36OfKind() {
        QuarryIndex x = four();
        CHECK.same("36 ahead of the first search", x.ofKind(2), 0);
        x.search(0);
        int[] due = {0, 1, 2, 0, 0, 0, 0, 1};
        for (int kind = 0; kind < due.length; kind++) {
            CHECK.same("36 kind " + kind, x.ofKind(kind), due[kind]);
        }
        CHECK.throwsIllegalArgument("36 kind -1", () -> x.ofKind(-1));
        CHECK.throwsIllegalArgument("36 kind 8", () -> x.ofKind(8));
        x.remove(1);
        x.compact();
        CHECK.same("36 they stay", x.ofKind(2), 2);
    }

    private static void promise37OfDates() {
        QuarryIndex x = four();
        CHECK.same("37 ahead of the first search", x.ofDates(0, 10000), 0);
        x.search(0);
        CHECK.same("37 one date", x.ofDates(3, 1), 1);
        CHECK.same("37 up to 6", x.ofDates(3, 4), 1);
        CHECK.same("37 up to 7", x.ofDates(3, 5), 3);
        CHECK.same("37 from 4", x.ofDates(4, 4), 2);
        CHECK.same("37 all dates", x.ofDates(0, 10000), 4);
        CHECK.same("37 the last date on", x.ofDates(9999, 10000), 0);
        CHECK.throwsIllegalArgument("37 from -1", () -> x.ofDates(-1, 1));
        CHECK.throwsIllegalArgument("37 from 10000", () -> x.ofDates(10000, 1));
        CHECK.throwsIllegalArgument("37 width 0", () -> x.ofDates(0, 0));
        CHECK.throwsIllegalArgument("37 width 10001", () -> x.ofDates(0, 10001));
    }

    private static void promise38Window() {
        QuarryIndex x = new QuarryIndex();
        Make.document(x, 0, 0, Make.row(9, 1, 9, 2, 1, 3), Make.row(8, 8, 1), Make.row(1, 1, 2, 9, 3, 2));
        x.term(1, 7);
        x.term(2, 7);
        x.or(0, 1);
        x.term(3, 7);
        x.or(2, 3);
        int[] due = {1, 3, 3, 2, 1, 0, 0};
        for (int index = 0; index < due.length; index++) {
            int width = index + 1;
            CHECK.same("38 width " + width, x.window(0, 4, 0, width), due[index]);
        }
        CHECK.same("38 width 12", x.window(0, 4, 0, 12), 0);
        CHECK.same("38 of several the first one", x.window(0, 0, 0, 1), 1);
        CHECK.same("38 beside the field's beginning", x.window(0, 0, 0, 2), 0);
        CHECK.same("38 different terms count", x.window(0, 4, 2, 2), 1);
        CHECK.same("38 different terms, width 3", x.window(0, 4, 2, 3), 0);
        CHECK.same("38 as far as the field goes", x.window(0, 4, 1, 12), 0);
        CHECK.same("38 the last place", x.window(0, 4, 1, 1), 2);
        x.remove(0);
        CHECK.same("38 one that is gone", x.window(0, 4, 0, 2), 3);
    }

    private static void promise38WindowOfNodes() {
        QuarryIndex x = new QuarryIndex();
        Make.document(x, 0, 0, Make.row(1, 2, 3), Make.row(3), Make.row());
        x.term(1, 1);
        x.term(2, 2);
        x.term(3, 1);
        int not = x.not(0, 2);
        int and = x.and(1, not);
        CHECK.same("38 the NODE itself", x.window(0, 2, 0, 1), 2);
        CHECK.same("38 the FIELDS it is for", x.window(0, 1, 0, 1), -1);
        CHECK.same("38 an empty field", x.window(0, 0, 2, 1), -1);
        CHECK.same("38 the first one of a NOT", x.window(0, and, 0, 1), 0);
        CHECK.same("38 the second one of a NOT", x.window(0, x.not(1, 2), 0, 1), -1);
        CHECK.same("38 in it otherwise", x.window(0, x.or(2, x.not(1, 2)), 0, 1), 2);
        CHECK.same("38 a NOT of a NOT", x.window(0, x.not(1, x.not(1, 0)), 0, 1), -1);
        CHECK.same("38 NEAR", x.window(0, x.near(2, 0, 1, true), 0, 3), 0);
        CHECK.same("38 SCALED", x.window(0, x.scaled(2, 0), 0, 1), 2);
        CHECK.same("38 MOST", x.window(0, x.most(1, 2, 2), 0, 1), 2);
        CHECK.same("38 KIND", x.window(0, x.kind(255), 0, 1), -1);
        x.setMute(3, true);
        CHECK.same("38 a mute one", x.window(0, 2, 0, 1), -1);
        x.setAlias(3, 2);
        CHECK.same("38 the alias of a mute one", x.window(0, 2, 0, 1), 1);
        x.setMute(2, true);
        CHECK.same("38 a mute alias", x.window(0, 2, 0, 1), -1);
    }

    private static void promise38WindowExceptions() {
        QuarryIndex x = new QuarryIndex();
        Make.document(x, 0, 0, Make.row(1));
        x.term(1, 1);
        CHECK.throwsOutOfBounds("38 document -1", () -> x.window(-1, 0, 0, 1));
        CHECK.throwsOutOfBounds("38 document 1", () -> x.window(1, 0, 0, 0));
        CHECK.throwsOutOfBounds("38 NODE -1", () -> x.window(0, -1, 0, 1));
        CHECK.throwsOutOfBounds("38 NODE 1", () -> x.window(0, 1, 0, 0));
        CHECK.throwsOutOfBounds("38 field -1", () -> x.window(0, 0, -1, 1));
        CHECK.throwsOutOfBounds("38 field 3", () -> x.window(0, 0, 3, 0));
        CHECK.throwsIllegalArgument("38 width 0", () -> x.window(0, 0, 0, 0));
        CHECK.throwsIllegalArgument("38 width 13", () -> x.window(0, 0, 0, 13));
        CHECK.same("38 width 12", x.window(0, 0, 0, 12), 0);
        Make.document(x, 0, 0, Make.row(5, 0));
        x.term(0, 1);
        CHECK.same("38 the least term", x.window(1, 1, 0, 1), 1);
    }
}
