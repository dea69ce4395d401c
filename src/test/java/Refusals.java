import java.util.List;

/** Every exception of the document: each clause of it is refused, nothing beside it is, and nothing changes. */
final class Refusals {
    private static final String ARGUMENT = Edges.ARGUMENT;
    private static final String BOUNDS = Edges.BOUNDS;
    private static final String STATE = Edges.STATE;
    private static final int LEAST = Integer.MIN_VALUE;
    private static final int GREATEST = Integer.MAX_VALUE;

    private final Edges edges;

    private Refusals(Edges edges) {
        this.edges = edges;
    }

    static void tell(Edges edges) {
        Refusals refusals = new Refusals(edges);
        refusals.ofDocuments();
        refusals.ofSettings();
        refusals.ofDocumentsAsked();
        refusals.ofSegments();
        refusals.ofTermNodes();
        refusals.ofPairs();
        refusals.ofNear();
        refusals.ofOtherNodes();
        refusals.ofMost();
        refusals.ofNodesAsked();
        refusals.ofResults();
        refusals.ofWindow();
        refusals.ofAsking();
    }

    /** A call with one number as its argument. */
    private interface ByNumber {
        Object on(QuarryIndex x, int number);
    }

    private static Edges.Act[] each(ByNumber call, int... numbers) {
        Edges.Act[] acts = new Edges.Act[numbers.length];
        for (int index = 0; index < numbers.length; index++) {
            int number = numbers[index];
            acts[index] = x -> call.on(x, number);
        }
        return acts;
    }

    /** The argument is to stand from the one number to the other one, both allowed. */
    private void range(int promise, String exception, String clause, Edges.Recipe state, int from, int to,
            ByNumber call) {
        edges.refusal(promise, exception, clause, state, each(call, from - 1, to + 1, LEAST, GREATEST),
                each(call, from, to));
    }

    private void ofDocuments() {
        range(2, ARGUMENT, "date is not 0 to 9999", Stock::small, 0, 9999, (x, date) -> x.open(date, 0));
        range(2, ARGUMENT, "kind is not 0 to 7", Stock::small, 0, 7, (x, kind) -> x.open(0, kind));
        edges.refusal(2, STATE, "one is OPEN", Stock::opened,
                Edges.wrong(x -> x.open(0, 0), x -> x.open(9999, 7)),
                Edges.right(x -> x.close() + x.open(0, 0)));
        edges.refusal(2, STATE, "60 have got a number", Stock::sixty,
                Edges.wrong(x -> x.open(0, 0), x -> x.open(9999, 7)), Edges.right());
        edges.refusal(2, STATE, "60 have got a number",
                x -> { Stock.sixty(x); x.remove(59); x.flush(); x.compact(); },
                Edges.wrong(x -> x.open(0, 0)), Edges.right());
        edges.refusal(2, STATE, "60 have got a number", Stock::lastOpened,
                Edges.wrong(x -> x.open(0, 0)), Edges.right(QuarryIndex::close));
        for (Edges.Recipe state : List.<Edges.Recipe>of(Stock::opened, Stock::lastOpened, Stock::sixty)) {
            edges.namedFirst(2, ARGUMENT, state, x -> x.open(-1, 0), x -> x.open(10000, 0), x -> x.open(0, -1),
                    x -> x.open(0, 8));
        }

        range(3, ARGUMENT, "field is not 0 to 2", Stock::opened, 0, 2,
                (x, field) -> x.write(field == 2 ? 1 : field, 0));
        range(3, ARGUMENT, "field is not 0 to 2", x -> x.open(0, 0), 0, 2, (x, field) -> x.write(field, 0));
        range(3, ARGUMENT, "term is not 0 to 199", Stock::opened, 0, 199, (x, term) -> x.write(0, term));
        edges.refusal(3, STATE, "none is OPEN", Stock::small,
                Edges.wrong(x -> x.write(0, 0), x -> x.write(2, 199)),
                Edges.right(x -> x.open(0, 0) + x.write(0, 0)));
        edges.refusal(3, STATE, "none is OPEN", Stock::empty,
                Edges.wrong(x -> x.write(1, 7)), Edges.right());
        edges.refusal(3, STATE, "the FIELD has 12", Stock::opened,
                Edges.wrong(x -> x.write(2, 0), x -> x.write(2, 11), x -> x.write(2, 199)),
                Edges.right(x -> x.write(0, 0), x -> x.write(1, 0)));
        edges.refusal(3, STATE, "the FIELD has 12", Stock::openedFull,
                Edges.wrong(x -> x.write(0, 0), x -> x.write(1, 0), x -> x.write(2, 0)), Edges.right());
        for (Edges.Recipe state : List.<Edges.Recipe>of(Stock::small, Stock::openedFull, Stock::sixty)) {
            edges.namedFirst(3, ARGUMENT, state, x -> x.write(-1, 0), x -> x.write(3, 0), x -> x.write(2, -1),
                    x -> x.write(0, 200));
        }

        edges.refusal(4, STATE, "none is OPEN", Stock::small, Edges.wrong(QuarryIndex::close),
                Edges.right(x -> x.open(0, 0) + x.close()));
        edges.refusal(4, STATE, "none is OPEN", Stock::empty, Edges.wrong(QuarryIndex::close), Edges.right());
        edges.refusal(4, STATE, "none is OPEN", Stock::sixty, Edges.wrong(QuarryIndex::close), Edges.right());

        range(5, BOUNDS, "there is no such DOCUMENT", Stock::small, 0, 6, QuarryIndex::remove);
        range(5, BOUNDS, "there is no such DOCUMENT", Stock::opened, 0, 6, QuarryIndex::remove);
        range(5, BOUNDS, "there is no such DOCUMENT", Stock::sixty, 0, 59, QuarryIndex::remove);
    }

    private void ofSettings() {
        range(6, ARGUMENT, "it is not 0 to 199", Stock::small, 0, 199, (x, term) -> x.setMute(term, true));
        range(6, ARGUMENT, "it is not 0 to 199", Stock::small, 0, 199, (x, term) -> x.setMute(term, false));
        range(7, ARGUMENT, "term is not 0 to 199", Stock::small, 0, 199, (x, term) -> x.setAlias(term, 5));
        range(7, ARGUMENT, "term is not 0 to 199", Stock::small, 0, 199, (x, term) -> x.setAlias(term, -1));
        range(7, ARGUMENT, "alias is not -1 to 199", Stock::small, -1, 199, (x, alias) -> x.setAlias(1, alias));
        edges.refusal(7, ARGUMENT, "is the TERM", Stock::small,
                each((x, term) -> x.setAlias(term, term), -1, 0, 1, 3, 199, 200),
                Edges.right(x -> x.setAlias(0, 1), x -> x.setAlias(1, 0), x -> x.setAlias(199, 198)));
        range(8, ARGUMENT, "field is not 0 to 2", Stock::small, 0, 2, (x, field) -> x.setWeight(field, 5));
        range(8, ARGUMENT, "weight is not 1 to 9", Stock::small, 1, 9, (x, weight) -> x.setWeight(1, weight));
    }

    private void ofDocumentsAsked() {
        range(10, BOUNDS, "there is no such DOCUMENT", Stock::small, 0, 6, QuarryIndex::stateOf);
        range(10, BOUNDS, "there is no such DOCUMENT", Stock::opened, 0, 6, QuarryIndex::stateOf);
        range(10, BOUNDS, "there is no such DOCUMENT", Stock::sixty, 0, 59, QuarryIndex::stateOf);
        edges.refusal(10, BOUNDS, "there is no such DOCUMENT", Stock::empty,
                each(QuarryIndex::stateOf, -1, 0, 1), Edges.right());

        edges.refusal(11, BOUNDS, "there is no such DOCUMENT", Stock::opened,
                each((x, document) -> x.termAt(document, 0, 0), -1, 7, LEAST, GREATEST),
                each((x, document) -> x.termAt(document, 0, 0), 0, 2, 4, 5, 6));
        edges.refusal(11, BOUNDS, "there is no such DOCUMENT", Stock::opened,
                Edges.wrong(x -> x.termAt(7, 2, 0), x -> x.termAt(7, 1, 10)),
                Edges.right(x -> x.close() + x.termAt(7, 2, 0) + x.termAt(7, 1, 10)));
        edges.refusal(11, BOUNDS, "FIELD", Stock::small,
                each((x, field) -> x.termAt(0, field, 0), -1, 3, LEAST, GREATEST),
                each((x, field) -> x.termAt(0, field, 0), 0, 1, 2));
        edges.refusal(11, BOUNDS, "place", Stock::small,
                each((x, place) -> x.termAt(0, 0, place), -1, 3, 11, 12, LEAST, GREATEST),
                each((x, place) -> x.termAt(0, 0, place), 0, 1, 2));
        edges.refusal(11, BOUNDS, "place", x -> { Stock.openedFull(x); x.close(); },
                each((x, place) -> x.termAt(7, 2, place), -1, 12), each((x, place) -> x.termAt(7, 2, place), 0, 11));
        edges.refusal(11, BOUNDS, "place", Stock::sixty,
                each((x, field) -> x.termAt(59, field, 0), 0, 1, 2), Edges.right());
    }

    private void ofSegments() {
        range(15, BOUNDS, "there is no such SEGMENT", Stock::small, 0, 1, QuarryIndex::tierOf);
        range(16, BOUNDS, "there is no such SEGMENT", Stock::small, 0, 1, QuarryIndex::sizeOf);
        edges.refusal(15, BOUNDS, "there is no such SEGMENT", Stock::empty, each(QuarryIndex::tierOf, -1, 0),
                Edges.right());
        edges.refusal(16, BOUNDS, "there is no such SEGMENT", Stock::empty, each(QuarryIndex::sizeOf, -1, 0),
                Edges.right());
        Edges.Recipe compacted = x -> { Stock.small(x); x.compact(); };
        range(15, BOUNDS, "there is no such SEGMENT", compacted, 0, 0, QuarryIndex::tierOf);
        range(16, BOUNDS, "there is no such SEGMENT", compacted, 0, 0, QuarryIndex::sizeOf);
        range(17, ARGUMENT, "term is not 0 to 199", Stock::small, 0, 199, (x, term) -> x.spread(term, 0));
        range(17, ARGUMENT, "field is not 0 to 2", Stock::small, 0, 2, (x, field) -> x.spread(0, field));
        range(18, ARGUMENT, "term is not 0 to 199", Stock::small, 0, 199, (x, term) -> x.rare(term, 0));
        range(18, ARGUMENT, "field is not 0 to 2", Stock::small, 0, 2, (x, field) -> x.rare(0, field));
    }

    /** A call that adds a NODE is refused at 30 and not at 29, and makes the 30th one. */
    private void thirty(int promise, Edges.Act act) {
        edges.refusal(promise, STATE, "there are 30", Stock::thirty, Edges.wrong(act),
                Edges.right(x -> x.clear() + x.term(0, 1)));
        edges.refusal(promise, STATE, "there are 30", x -> { Stock.twentyNine(x); act.on(x); }, Edges.wrong(act),
                Edges.right());
        edges.same("the 30th one", act.on(Edges.made(Stock::twentyNine)), 29);
    }

    private void ofTermNodes() {
        range(19, ARGUMENT, "term is not 0 to 199", Stock::small, 0, 199, (x, term) -> x.term(term, 1));
        range(19, ARGUMENT, "fields is not 1 to 7", Stock::small, 1, 7, (x, fields) -> x.term(1, fields));
        thirty(19, x -> x.term(1, 7));
        edges.namedFirst(19, ARGUMENT, Stock::thirty, x -> x.term(-1, 1), x -> x.term(200, 1), x -> x.term(1, 0),
                x -> x.term(1, 8));
    }

    private void ofPairs() {
        ofPair(20, QuarryIndex::and);
        ofPair(21, QuarryIndex::or);
        ofPair(22, QuarryIndex::not);
    }

    /** A call that adds a NODE of two. */
    private interface Pair {
        int on(QuarryIndex x, int one, int other);
    }

    private void ofPair(int promise, Pair call) {
        range(promise, BOUNDS, "there is no such NODE", Stock::small, 0, 9, (x, one) -> call.on(x, one, 0));
        range(promise, BOUNDS, "there is no such NODE", Stock::small, 0, 9, (x, other) -> call.on(x, 0, other));
        edges.refusal(promise, BOUNDS, "there is no such NODE", Stock::empty,
                Edges.wrong(x -> call.on(x, 0, 0), x -> call.on(x, -1, -1)), Edges.right());
        edges.refusal(promise, BOUNDS, "there is no such NODE", x -> { Stock.small(x); x.clear(); },
                Edges.wrong(x -> call.on(x, 0, 1)), Edges.right());
        thirty(promise, x -> call.on(x, 28, 0));
        edges.namedFirst(promise, BOUNDS, Stock::thirty, x -> call.on(x, 30, 0), x -> call.on(x, 0, 30),
                x -> call.on(x, -1, 0), x -> call.on(x, 0, -1));
    }

    private void ofNear() {
        edges.refusal(23, BOUNDS, "there is no such NODE", Stock::small,
                each((x, one) -> x.near(one, 0, 1, true), -1, 10, LEAST, GREATEST),
                each((x, one) -> x.near(one, 0, 1, true), 0, 1));
        edges.refusal(23, BOUNDS, "there is no such NODE", Stock::small,
                each((x, other) -> x.near(0, other, 1, true), -1, 10, LEAST, GREATEST),
                each((x, other) -> x.near(0, other, 1, true), 0, 1));
        edges.refusal(23, ARGUMENT, "one of them is no TERM NODE", Stock::small,
                each((x, one) -> x.near(one, 0, 1, true), 2, 3, 4, 5, 6, 7, 8, 9),
                each((x, one) -> x.near(one, 1, 1, true), 0, 1));
        edges.refusal(23, ARGUMENT, "one of them is no TERM NODE", Stock::small,
                each((x, other) -> x.near(0, other, 1, true), 2, 3, 4, 5, 6, 7, 8, 9),
                each((x, other) -> x.near(1, other, 1, true), 0, 1));
        range(23, ARGUMENT, "distance is not 1 to 10", Stock::small, 1, 10, (x, d) -> x.near(0, 1, d, true));
        range(23, ARGUMENT, "distance is not 1 to 10", Stock::small, 1, 10, (x, d) -> x.near(0, 1, d, false));
        thirty(23, x -> x.near(0, 1, 10, true));
        edges.namedFirst(23, BOUNDS, Stock::small, x -> x.near(10, 2, 1, true), x -> x.near(2, 10, 1, true),
                x -> x.near(-1, 0, 0, true), x -> x.near(0, -1, 11, true));
        edges.namedFirst(23, BOUNDS, Stock::thirty, x -> x.near(30, 0, 1, true), x -> x.near(0, 30, 1, true),
                x -> x.near(2, 30, 11, true));
        edges.namedFirst(23, ARGUMENT, Stock::thirty, x -> x.near(0, 2, 1, true), x -> x.near(2, 0, 1, true),
                x -> x.near(0, 1, 0, true), x -> x.near(0, 1, 11, true));
    }

    private void ofOtherNodes() {
        range(24, ARGUMENT, "one of them is not 0 to 9999", Stock::small, 0, 9999, (x, from) -> x.dated(from, 9999));
        range(24, ARGUMENT, "one of them is not 0 to 9999", Stock::small, 0, 9999, (x, to) -> x.dated(0, to));
        thirty(24, x -> x.dated(0, 9999));
        edges.namedFirst(24, ARGUMENT, Stock::thirty, x -> x.dated(-1, 0), x -> x.dated(0, 10000));

        range(25, ARGUMENT, "kinds is not 1 to 255", Stock::small, 1, 255, QuarryIndex::kind);
        thirty(25, x -> x.kind(255));
        edges.namedFirst(25, ARGUMENT, Stock::thirty, x -> x.kind(0), x -> x.kind(256));

        range(26, BOUNDS, "there is no such NODE", Stock::small, 0, 9, (x, node) -> x.scaled(node, 100));
        range(26, ARGUMENT, "parts is not 0 to 500", Stock::small, 0, 500, (x, parts) -> x.scaled(0, parts));
        thirty(26, x -> x.scaled(28, 0));
        edges.namedFirst(26, BOUNDS, Stock::small, x -> x.scaled(10, -1), x -> x.scaled(-1, 501));
        edges.namedFirst(26, BOUNDS, Stock::thirty, x -> x.scaled(30, 1), x -> x.scaled(30, 501));
        edges.namedFirst(26, ARGUMENT, Stock::thirty, x -> x.scaled(0, -1), x -> x.scaled(29, 501));
    }

    private void ofMost() {
        edges.refusal(27, BOUNDS, "first is no NODE", Stock::small,
                each((x, first) -> x.most(first, 2, 1), -1, 10, LEAST, GREATEST),
                each((x, first) -> x.most(first, 2, 1), 0, 8));
        edges.refusal(27, BOUNDS, "one of the others is none", Stock::small,
                Edges.wrong(x -> x.most(9, 2, 1), x -> x.most(8, 3, 1), x -> x.most(7, 4, 1)),
                Edges.right(x -> x.most(8, 2, 1), x -> x.most(7, 3, 1), x -> x.most(6, 4, 1)));
        edges.refusal(27, ARGUMENT, "many is not 2 to 4", Stock::small,
                each((x, many) -> x.most(0, many, 1), 1, 5, 10, 0, -1, LEAST),
                each((x, many) -> x.most(0, many, 1), 2, 4));
        edges.refusal(27, ARGUMENT, "least is not 1 to many", Stock::small,
                Edges.wrong(x -> x.most(0, 2, 0), x -> x.most(0, 2, 3), x -> x.most(0, 3, 4), x -> x.most(0, 4, 5),
                        x -> x.most(0, 4, -1), x -> x.most(0, 4, LEAST), x -> x.most(0, 4, GREATEST)),
                Edges.right(x -> x.most(0, 2, 1), x -> x.most(0, 2, 2), x -> x.most(0, 3, 3), x -> x.most(0, 4, 4)));
        thirty(27, x -> x.most(25, 4, 4));
        edges.namedFirst(27, BOUNDS, Stock::small, x -> x.most(10, 1, 1), x -> x.most(10, 5, 1),
                x -> x.most(10, 0, 1), x -> x.most(11, -1, 1), x -> x.most(GREATEST, LEAST, 1),
                x -> x.most(-1, 2, 0), x -> x.most(-1, 2, 3), x -> x.most(9, 2, 0), x -> x.most(9, 2, 3),
                x -> x.most(6, 5, 1), x -> x.most(0, 11, 1), x -> x.most(9, GREATEST, 1),
                x -> x.most(GREATEST, GREATEST, 1));
        edges.namedFirst(27, BOUNDS, Stock::thirty, x -> x.most(30, 2, 1), x -> x.most(29, 2, 1),
                x -> x.most(27, 4, 0));
        edges.namedFirst(27, ARGUMENT, Stock::thirty, x -> x.most(0, 1, 1), x -> x.most(0, 5, 1),
                x -> x.most(0, 2, 0), x -> x.most(28, 2, 3));
    }

    private void ofNodesAsked() {
        ofNode(31, QuarryIndex::found);
        ofNode(32, QuarryIndex::search);
        ofNode(41, QuarryIndex::cost);
        ofNode(42, QuarryIndex::byAlias);
        ofNodeAndDocument(30, QuarryIndex::score);
        ofNodeAndDocument(43, QuarryIndex::wouldScore);
    }

    private void ofNode(int promise, ByNumber call) {
        range(promise, BOUNDS, "there is no such NODE", Stock::small, 0, 9, call);
        range(promise, BOUNDS, "there is no such NODE", Stock::thirty, 0, 29, call);
        edges.refusal(promise, BOUNDS, "there is no such NODE", Stock::empty, each(call, -1, 0), Edges.right());
        edges.refusal(promise, BOUNDS, "there is no such NODE", x -> { Stock.small(x); x.clear(); },
                each(call, 0, 3, 9), Edges.right());
    }

    private void ofNodeAndDocument(int promise, Pair call) {
        ofNode(promise, (x, node) -> call.on(x, node, 0));
        range(promise, BOUNDS, "DOCUMENT", Stock::small, 0, 6, (x, document) -> call.on(x, 0, document));
        range(promise, BOUNDS, "DOCUMENT", Stock::opened, 0, 6, (x, document) -> call.on(x, 0, document));
        edges.refusal(promise, BOUNDS, "DOCUMENT", x -> x.term(0, 1),
                Edges.wrong(x -> call.on(x, 0, 0), x -> call.on(x, 1, 0)), Edges.right());
    }

    private void ofResults() {
        range(34, BOUNDS, "there is no such place", Stock::small, 0, 2, QuarryIndex::resultAt);
        range(35, BOUNDS, "there is no such place", Stock::small, 0, 2, QuarryIndex::scoreAt);
        edges.refusal(34, BOUNDS, "there is no such place", Stock::empty, each(QuarryIndex::resultAt, -1, 0),
                Edges.right());
        edges.refusal(35, BOUNDS, "there is no such place", Stock::empty, each(QuarryIndex::scoreAt, -1, 0),
                Edges.right());
        Edges.Recipe fewer = x -> { Stock.small(x); x.search(x.term(150, 7)); };
        edges.refusal(34, BOUNDS, "there is no such place", fewer, each(QuarryIndex::resultAt, 0, 2), Edges.right());
        edges.refusal(35, BOUNDS, "there is no such place", fewer, each(QuarryIndex::scoreAt, 0, 2), Edges.right());
        range(36, ARGUMENT, "it is not 0 to 7", Stock::small, 0, 7, QuarryIndex::ofKind);
        range(36, ARGUMENT, "it is not 0 to 7", Stock::empty, 0, 7, QuarryIndex::ofKind);
        range(37, ARGUMENT, "from is not 0 to 9999", Stock::small, 0, 9999, (x, from) -> x.ofDates(from, 1));
        range(37, ARGUMENT, "from is not 0 to 9999", Stock::empty, 0, 9999, (x, from) -> x.ofDates(from, 10000));
        range(37, ARGUMENT, "width is not 1 to 10000", Stock::small, 1, 10000, (x, width) -> x.ofDates(0, width));
        range(37, ARGUMENT, "width is not 1 to 10000", Stock::empty, 1, 10000, (x, width) -> x.ofDates(9999, width));
    }

    private void ofWindow() {
        range(38, BOUNDS, "there is no such DOCUMENT", Stock::small, 0, 6,
                (x, document) -> x.window(document, 0, 0, 1));
        range(38, BOUNDS, "there is no such DOCUMENT", Stock::opened, 0, 6,
                (x, document) -> x.window(document, 0, 2, 1));
        range(38, BOUNDS, "NODE", Stock::small, 0, 9, (x, node) -> x.window(0, node, 0, 1));
        range(38, BOUNDS, "FIELD", Stock::small, 0, 2, (x, field) -> x.window(0, 0, field, 1));
        range(38, ARGUMENT, "width is not 1 to 12", Stock::small, 1, 12, (x, width) -> x.window(0, 0, 0, width));
        edges.namedFirst(38, BOUNDS, Stock::small, x -> x.window(7, 0, 0, 0), x -> x.window(-1, 0, 0, 13),
                x -> x.window(0, 10, 0, 0), x -> x.window(0, -1, 0, 13), x -> x.window(0, 0, 3, 0),
                x -> x.window(0, 0, -1, 13), x -> x.window(7, 10, 3, 0));
    }

    private void ofAsking() {
        range(39, BOUNDS, "there is no such DOCUMENT", Stock::small, 0, 6, QuarryIndex::like);
        range(39, BOUNDS, "there is no such DOCUMENT", Stock::opened, 0, 6, QuarryIndex::like);
        range(39, BOUNDS, "there is no such DOCUMENT", Stock::sixty, 0, 59, QuarryIndex::like);
        edges.refusal(39, BOUNDS, "there is no such DOCUMENT", Stock::empty, each(QuarryIndex::like, -1, 0),
                Edges.right());
        range(40, ARGUMENT, "it is not 0 to 199", Stock::small, 0, 199, QuarryIndex::mate);
        edges.refusal(40, ARGUMENT, "is MUTE", Stock::small, each(QuarryIndex::mate, 3),
                Edges.right(x -> x.mate(2), x -> x.mate(4), x -> x.setMute(3, false) ? x.mate(3) : -1));
        edges.refusal(40, ARGUMENT, "is MUTE",
                x -> { Stock.small(x); x.setMute(0, true); x.setMute(199, true); },
                each(QuarryIndex::mate, 0, 3, 199), each(QuarryIndex::mate, 1, 198));
    }
}
