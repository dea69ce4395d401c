/** Promises 1 to 11: a new object, and documents. */
public final class DocumentsTest {
    private static final Check CHECK = new Check("DocumentsTest");

    private DocumentsTest() {
    }

    public static void main(String[] args) {
        promise1NewObject();
        promise2Open();
        promise2OpenAtSixty();
        promise3Write();
        promise4Close();
        promise5Remove();
        promise6SetMute();
        promise7SetAlias();
        promise8SetWeight();
        promise9Documents();
        promise10StateOf();
        promise11TermAt();
        CHECK.end();
    }

    private static void promise1NewObject() {
        QuarryIndex x = new QuarryIndex();
        CHECK.same("1 documents", x.documents(), 0);
        CHECK.same("1 segments", x.segments(), 0);
        CHECK.same("1 nodes", x.nodes(), 0);
        CHECK.same("1 results", x.results(), 0);
        CHECK.throwsOutOfBounds("1 stateOf(0)", () -> x.stateOf(0));
        CHECK.throwsIllegalState("1 nothing is open", x::close);
        for (int term = 0; term < 200; term++) {
            CHECK.same("1 mute " + term, x.setMute(term, false), false);
            CHECK.same("1 alias " + term, x.setAlias(term, -1), -1);
        }
        for (int field = 0; field < 3; field++) {
            CHECK.same("1 weight " + field, x.setWeight(field, 1), 1);
        }
    }

    private static void promise2Open() {
        QuarryIndex x = new QuarryIndex();
        CHECK.throwsIllegalArgument("2 date -1", () -> x.open(-1, 0));
        CHECK.throwsIllegalArgument("2 date 10000", () -> x.open(10000, 0));
        CHECK.throwsIllegalArgument("2 kind -1", () -> x.open(0, -1));
        CHECK.throwsIllegalArgument("2 kind 8", () -> x.open(0, 8));
        CHECK.throwsIllegalArgument("2 far off", () -> x.open(Integer.MIN_VALUE, Integer.MAX_VALUE));
        CHECK.same("2 the least date and kind", x.open(0, 0), 0);
        CHECK.same("2 an open one has no number yet", x.documents(), 0);
        CHECK.throwsIllegalState("2 one is open", () -> x.open(0, 0));
        CHECK.throwsIllegalArgument("2 the argument is named first", () -> x.open(10000, 0));
        x.close();
        CHECK.same("2 the greatest date and kind", x.open(9999, 7), 1);
        x.close();
        CHECK.throwsOutOfBounds("2 without terms", () -> x.termAt(1, 0, 0));
    }

    private static void promise2OpenAtSixty() {
        QuarryIndex x = new QuarryIndex();
        for (int number = 0; number < 60; number++) {
            CHECK.same("2 open " + number, Make.document(x, number, number % 8), number);
        }
        CHECK.throwsIllegalState("2 sixty have a number", () -> x.open(0, 0));
        CHECK.throwsIllegalArgument("2 the argument is named first at sixty", () -> x.open(0, 8));
        x.remove(0);
        x.flush();
        x.compact();
        CHECK.throwsIllegalState("2 those that are gone keep their numbers", () -> x.open(0, 0));
        CHECK.same("2 documents at sixty", x.documents(), 60);
    }

    private static void promise3Write() {
        QuarryIndex x = new QuarryIndex();
        CHECK.throwsIllegalState("3 none is open", () -> x.write(0, 0));
        CHECK.throwsIllegalArgument("3 the argument is named first", () -> x.write(3, 0));
        x.open(1, 1);
        CHECK.throwsIllegalArgument("3 field -1", () -> x.write(-1, 0));
        CHECK.throwsIllegalArgument("3 field 3", () -> x.write(3, 0));
        CHECK.throwsIllegalArgument("3 term -1", () -> x.write(0, -1));
        CHECK.throwsIllegalArgument("3 term 200", () -> x.write(0, 200));
        for (int many = 1; many <= 12; many++) {
            CHECK.same("3 write " + many, x.write(2, 199), many);
        }
        CHECK.throwsIllegalState("3 the field has 12", () -> x.write(2, 0));
        CHECK.throwsIllegalArgument("3 the argument is named first when full", () -> x.write(2, 200));
        CHECK.same("3 another field", x.write(0, 0), 1);
        CHECK.same("3 behind it", x.write(0, 7), 2);
        x.close();
        CHECK.same("3 the first place", x.termAt(0, 0, 0), 0);
        CHECK.same("3 the second place", x.termAt(0, 0, 1), 7);
        CHECK.throwsIllegalState("3 closed", () -> x.write(0, 0));
    }

    private static void promise4Close() {
        QuarryIndex x = new QuarryIndex();
        CHECK.throwsIllegalState("4 none is open", x::close);
        x.open(0, 0);
        CHECK.same("4 the first one", x.close(), 1);
        CHECK.throwsIllegalState("4 closed already", x::close);
        x.open(0, 0);
        x.remove(0);
        CHECK.same("4 one that is gone counts", x.close(), 2);
        x.flush();
        x.open(0, 0);
        CHECK.same("4 behind a flush", x.close(), 1);
        CHECK.same("4 its number", x.documents(), 3);
    }

    private static void promise5Remove() {
        QuarryIndex x = new QuarryIndex();
        CHECK.throwsOutOfBounds("5 no document", () -> x.remove(0));
        x.open(0, 0);
        CHECK.throwsOutOfBounds("5 an open one has no number", () -> x.remove(0));
        x.close();
        CHECK.throwsOutOfBounds("5 number -1", () -> x.remove(-1));
        CHECK.throwsOutOfBounds("5 number 1", () -> x.remove(1));
        CHECK.same("5 in the buffer", x.remove(0), true);
        CHECK.same("5 gone already", x.remove(0), false);
        Make.flushed(x, 4);
        CHECK.same("5 in a segment", x.remove(1), true);
        CHECK.same("5 it still lies there", x.sizeOf(0), 2);
        x.compact();
        CHECK.same("5 it lies nowhere", x.remove(1), false);
    }

    private static void promise6SetMute() {
        QuarryIndex x = new QuarryIndex();
        CHECK.throwsIllegalArgument("6 term -1", () -> x.setMute(-1, true));
        CHECK.throwsIllegalArgument("6 term 200", () -> x.setMute(200, true));
        CHECK.same("6 it was not", x.setMute(199, true), false);
        CHECK.same("6 it was", x.setMute(199, true), true);
        CHECK.same("6 it was, until now", x.setMute(199, false), true);
        CHECK.same("6 it is no more", x.setMute(199, false), false);
        CHECK.same("6 another one", x.setMute(0, true), false);
        CHECK.same("6 the least one", x.setMute(0, false), true);

        Make.flushed(x, 5, 6);
        x.term(5, 1);
        int rare = x.rare(5, 0);
        int score = x.score(0, 0);
        x.setMute(5, true);
        CHECK.same("6 nobody finds it", x.found(0), 0);
        CHECK.same("6 it has its place", x.termAt(0, 0, 0), 5);
        CHECK.same("6 it counts in n(t, f)", x.spread(5, 0), 1);
        CHECK.same("6 it counts in RARE", x.rare(5, 0), rare);
        x.term(6, 1);
        CHECK.same("6 it counts in lengths", x.score(1, 0), score);
        x.setMute(5, false);
        CHECK.same("6 it is found again", x.score(0, 0), score);
    }

    private static void promise7SetAlias() {
        QuarryIndex x = new QuarryIndex();
        CHECK.throwsIllegalArgument("7 term -1", () -> x.setAlias(-1, 0));
        CHECK.throwsIllegalArgument("7 term 200", () -> x.setAlias(200, 0));
        CHECK.throwsIllegalArgument("7 alias -2", () -> x.setAlias(0, -2));
        CHECK.throwsIllegalArgument("7 alias 200", () -> x.setAlias(0, 200));
        CHECK.throwsIllegalArgument("7 the term itself", () -> x.setAlias(3, 3));
        CHECK.same("7 none before", x.setAlias(0, 199), -1);
        CHECK.same("7 another one", x.setAlias(0, 1), 199);
        CHECK.same("7 none from now on", x.setAlias(0, -1), 1);
        CHECK.same("7 there is none", x.setAlias(0, -1), -1);

        Make.flushed(x, 11);
        Make.flushed(x, 12);
        Make.document(x, 0, 0, Make.row(13));
        x.flush();
        x.setAlias(11, 12);
        x.setAlias(12, 13);
        x.term(11, 1);
        x.term(12, 1);
        x.term(13, 1);
        CHECK.same("7 who looks for the one finds both", x.found(0), 2);
        CHECK.same("7 the one", x.score(0, 0) >= 0, true);
        CHECK.same("7 its alias", x.score(0, 1), x.score(1, 1));
        CHECK.same("7 not along two", x.score(0, 2), -1);
        CHECK.same("7 not the other way round", x.score(1, 0), -1);
        CHECK.same("7 one without an alias", x.found(2), 1);
    }

    private static void promise8SetWeight() {
        QuarryIndex x = new QuarryIndex();
        CHECK.throwsIllegalArgument("8 field -1", () -> x.setWeight(-1, 1));
        CHECK.throwsIllegalArgument("8 field 3", () -> x.setWeight(3, 1));
        CHECK.throwsIllegalArgument("8 weight 0", () -> x.setWeight(0, 0));
        CHECK.throwsIllegalArgument("8 weight 10", () -> x.setWeight(0, 10));
        CHECK.same("8 it was 1", x.setWeight(2, 9), 1);
        CHECK.same("8 it was 9", x.setWeight(2, 1), 9);
        CHECK.same("8 another field", x.setWeight(0, 4), 1);
        Make.document(x, 0, 0, Make.row(5), Make.row(5));
        x.flush();
        x.term(5, 1);
        x.term(5, 2);
        x.term(5, 3);
        CHECK.same("8 the weight of field 0", x.score(0, 0), 4 * 90);
        CHECK.same("8 the weight of field 1", x.score(1, 0), 90);
        CHECK.same("8 both", x.score(2, 0), 5 * 90);
    }

    private static void promise9Documents() {
        QuarryIndex x = new QuarryIndex();
        CHECK.same("9 none", x.documents(), 0);
        x.open(0, 0);
        CHECK.same("9 an open one", x.documents(), 0);
        x.close();
        CHECK.same("9 one", x.documents(), 1);
        x.remove(0);
        x.flush();
        x.compact();
        CHECK.same("9 one that is gone", x.documents(), 1);
    }

    private static void promise10StateOf() {
        QuarryIndex x = new QuarryIndex();
        CHECK.throwsOutOfBounds("10 none", () -> x.stateOf(0));
        Make.document(x, 0, 0);
        CHECK.throwsOutOfBounds("10 number -1", () -> x.stateOf(-1));
        CHECK.throwsOutOfBounds("10 number 1", () -> x.stateOf(1));
        CHECK.same("10 in the buffer", x.stateOf(0), 1);
        x.flush();
        CHECK.same("10 in a segment", x.stateOf(0), 2);
        x.remove(0);
        CHECK.same("10 gone in a segment", x.stateOf(0), 0);
        x.compact();
        CHECK.same("10 gone and nowhere", x.stateOf(0), 0);
        Make.document(x, 0, 0);
        x.remove(1);
        CHECK.same("10 gone in the buffer", x.stateOf(1), 0);
    }

    private static void promise11TermAt() {
        QuarryIndex x = new QuarryIndex();
        Make.document(x, 0, 0, Make.row(7, 8), Make.row(), Make.row(199));
        CHECK.same("11 the first place", x.termAt(0, 0, 0), 7);
        CHECK.same("11 the last place", x.termAt(0, 0, 1), 8);
        CHECK.same("11 another field", x.termAt(0, 2, 0), 199);
        CHECK.throwsOutOfBounds("11 behind the last place", () -> x.termAt(0, 0, 2));
        CHECK.throwsOutOfBounds("11 place -1", () -> x.termAt(0, 0, -1));
        CHECK.throwsOutOfBounds("11 an empty field", () -> x.termAt(0, 1, 0));
        CHECK.throwsOutOfBounds("11 field -1", () -> x.termAt(0, -1, 0));
        CHECK.throwsOutOfBounds("11 field 3", () -> x.termAt(0, 3, 0));
        CHECK.throwsOutOfBounds("11 document -1", () -> x.termAt(-1, 0, 0));
        CHECK.throwsOutOfBounds("11 document 1", () -> x.termAt(1, 0, 0));
        x.remove(0);
        x.flush();
        x.compact();
        CHECK.same("11 one that is gone", x.termAt(0, 0, 1), 8);
        x.open(0, 0);
        x.write(0, 1);
        CHECK.throwsOutOfBounds("11 an open one", () -> x.termAt(1, 0, 0));
    }
}
