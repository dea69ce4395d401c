import java.util.ArrayList;
import java.util.List;

/** Engines in states that show what a refused call would change, and all that can be told of an engine. */
final class Stock {
    /** How many calls small() makes. */
    static final int SMALL_CALLS = 56;

    private Stock() {
    }

    static void empty(QuarryIndex x) {
    }

    /** 7 documents in all states, 10 NODES of all sorts, RESULTS, a mute TERM, an ALIAS and a WEIGHT. */
    static void small(QuarryIndex x) {
        Make.document(x, 0, 0, Make.row(0, 1, 2), Make.row(1), Make.row(199));
        x.flush();
        Make.document(x, 9999, 7, Make.row(1, 1, 2), Make.row(2, 0));
        x.flush();
        Make.document(x, 5, 3, Make.row(2));
        x.remove(2);
        x.flush();
        Make.document(x, 5, 3, Make.row(0, 199), Make.row(1, 2), Make.row(2, 1));
        Make.document(x, 7, 1, Make.row(3));
        x.flush();
        x.remove(4);
        Make.document(x, 6, 2, Make.row(1, 3));
        Make.document(x, 8, 2, Make.row(1));
        x.remove(6);
        x.setMute(3, true);
        x.setAlias(1, 199);
        x.setWeight(1, 4);
        x.term(1, 7);
        x.term(2, 3);
        x.and(0, 1);
        x.or(0, 1);
        x.not(1, 0);
        x.near(0, 1, 2, false);
        x.dated(0, 5);
        x.kind(1 | 8);
        x.scaled(0, 250);
        x.most(0, 4, 2);
        x.search(3);
    }

    /** A document is OPEN, its field 2 full, one place left in its field 1. */
    static void opened(QuarryIndex x) {
        small(x);
        x.open(77, 5);
        for (int many = 0; many < 12; many++) {
            x.write(2, many);
        }
        for (int many = 0; many < 11; many++) {
            x.write(1, many);
        }
    }

    /** All three fields of the OPEN document are full. */
    static void openedFull(QuarryIndex x) {
        opened(x);
        x.write(1, 50);
        for (int many = 0; many < 12; many++) {
            x.write(0, 100 + many);
        }
    }

    /** 59 documents have a number, and the last one is OPEN. */
    static void lastOpened(QuarryIndex x) {
        small(x);
        while (x.documents() < 59) {
            Make.document(x, x.documents(), 4);
        }
        x.open(77, 5);
    }

    static void sixty(QuarryIndex x) {
        lastOpened(x);
        x.close();
    }

    static void twentyNine(QuarryIndex x) {
        small(x);
        while (x.nodes() < 29) {
            x.term(x.nodes(), 7);
        }
    }

    static void thirty(QuarryIndex x) {
        twentyNine(x);
        x.dated(0, 9);
    }

    /** An exception is told by a short sign: most of the places that are asked for are none. */
    private static Object outcome(Check.Call call) {
        Object outcome = Check.outcome(call);
        return outcome.equals("throws." + Edges.BOUNDS) ? "!" : outcome;
    }

    /** Several engines are asked, since one may be used for 512 calls alone. */
    static List<String> told(Edges.Recipe state) {
        List<String> told = new ArrayList<>();
        told.add(asked(Edges.made(state)));
        told.add(askedOfNodes(Edges.made(state)));
        told.add(askedOfTerms(Edges.made(state)));
        told.add(askedOfAliases(Edges.made(state)));
        told.add(closed(Edges.made(state)));
        told.add(writtenOn(Edges.made(state)));
        return told;
    }

    private static String asked(QuarryIndex x) {
        StringBuilder told = new StringBuilder();
        told.append(x.documents()).append(' ').append(x.segments()).append(' ').append(x.nodes());
        told.append(' ').append(x.results()).append(' ').append(x.waste()).append(' ').append(x.digest());
        for (int segment = 0; segment < x.segments(); segment++) {
            told.append(' ').append(x.tierOf(segment)).append(':').append(x.sizeOf(segment));
        }
        for (int place = 0; place < x.results(); place++) {
            told.append(' ').append(x.resultAt(place)).append('=').append(x.scoreAt(place));
        }
        told.append(' ').append(x.ofDates(0, 10000)).append(' ').append(x.ofDates(5, 1));
        for (int document = 0; document < Math.min(7, x.documents()); document++) {
            told.append(" | ").append(x.stateOf(document)).append(x.like(document));
            for (int place = 0; place < 12; place++) {
                int document1 = document;
                int field = place % 3;
                int place1 = place / 3;
                told.append(' ').append(outcome(() -> x.termAt(document1, field, place1)));
            }
        }
        return told.toString();
    }

    private static String askedOfNodes(QuarryIndex x) {
        StringBuilder told = new StringBuilder();
        for (int node = 0; node < Math.min(11, x.nodes()); node++) {
            told.append(" | ").append(x.byAlias(node)).append(' ').append(x.cost(node));
            for (int document = 0; document < Math.min(7, x.documents()); document++) {
                told.append(' ').append(x.wouldScore(node, document));
                told.append(' ').append(x.window(document, node, document % 3, 2));
            }
        }
        return told.toString();
    }

    private static String askedOfTerms(QuarryIndex x) {
        StringBuilder told = new StringBuilder();
        for (int term : new int[] {0, 1, 2, 199}) {
            told.append(' ').append(outcome(() -> x.mate(term))).append(' ').append(x.spread(term, 0)).append(' ');
            told.append(x.rare(term, 1)).append(' ').append(x.spread(term, 2));
        }
        for (int field = 0; field < 3; field++) {
            told.append(' ').append(x.setWeight(field, 1));
        }
        for (int term = 0; term < 200; term++) {
            told.append(x.setMute(term, false) ? " mute" : " -");
        }
        return told.toString();
    }

    private static String askedOfAliases(QuarryIndex x) {
        StringBuilder told = new StringBuilder();
        for (int term = 0; term < 200; term++) {
            told.append(' ').append(x.setAlias(term, -1));
        }
        return told.toString();
    }

    /** How long the FIELDS of the OPEN document are is seen by writing on. */
    private static String writtenOn(QuarryIndex x) {
        StringBuilder told = new StringBuilder();
        for (int field = 0; field < 3; field++) {
            int field1 = field;
            told.append(' ').append(outcome(() -> x.write(field1, 7)));
        }
        return told.append(closed(x)).toString();
    }

    /** Whether a document is OPEN, and what stands in it, is seen by closing it. */
    private static String closed(QuarryIndex x) {
        StringBuilder told = new StringBuilder();
        told.append(' ').append(outcome(x::close)).append(' ').append(x.flush());
        int last = x.documents() - 1;
        for (int place = 0; place < 36; place++) {
            int field = place % 3;
            int place1 = place / 3;
            told.append(' ').append(outcome(() -> x.termAt(last, field, place1)));
        }
        told.append(' ').append(x.clear());
        for (int kind = 0; kind < 8; kind++) {
            x.kind(1 << kind);
        }
        for (int date : new int[] {0, 4, 5, 6, 7, 8, 76, 77, 9998, 9999}) {
            x.dated(0, date);
        }
        told.append(' ').append(x.digest());
        return told.toString();
    }
}
