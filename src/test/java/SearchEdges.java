import java.util.ArrayList;
import java.util.List;

/** The edges of promises 32 to 38: searching. */
final class SearchEdges {
    private final Edges edges;

    private SearchEdges(Edges edges) {
        this.edges = edges;
    }

    static void tell(Edges edges) {
        SearchEdges those = new SearchEdges(edges);
        those.ofSearch();
        those.ofOrder();
        those.ofStaying();
        those.ofResults();
        those.ofKinds();
        those.ofDates();
        those.ofWindows();
        those.ofWindowCounts();
        those.ofWindowTerms();
        those.ofWindowNodes();
    }

    private static String told(QuarryIndex x) {
        StringBuilder told = new StringBuilder();
        for (int place = 0; place < x.results(); place++) {
            told.append(x.resultAt(place)).append('=').append(x.scoreAt(place)).append(' ');
        }
        return told.toString().trim();
    }

    /** Four documents that the NODE 0 finds: 3 with 108, and 1, 2 and 0 with 100. */
    private static QuarryIndex four() {
        QuarryIndex x = new QuarryIndex();
        Make.document(x, 3, 1, Make.row(5));
        Make.document(x, 7, 2, Make.row(5));
        Make.document(x, 7, 2, Make.row(5));
        Make.document(x, 0, 7, Make.row(5, 5));
        x.flush();
        x.term(5, 1);
        return x;
    }

    private void ofSearch() {
        edges.sentence(32, "Returns how many RESULTS there are", () -> {
            QuarryIndex x = new QuarryIndex();
            x.kind(1);
            edges.same("without DOCUMENTS", x.search(0), 0);
            for (int number = 0; number < 60; number++) {
                Make.document(x, number, number == 59 ? 1 : 0);
            }
            edges.same("in the BUFFER", x.search(0), 0);
            x.flush();
            edges.same("all but one", x.search(0), 59);
            x.kind(255);
            edges.same("all", x.search(1), 60);
            x.kind(4);
            edges.same("none", x.search(2), 0);
        });
        edges.sentence(32, "A search is of a NODE, and keeps what it FINDS as it is then", () -> {
            QuarryIndex x = four();
            x.kind(4);
            edges.same("the one NODE", x.search(0), 4);
            edges.same("the other NODE", x.search(1), 2);
            edges.same("with its SCORES", told(x), "1=0 2=0");
            x.remove(1);
            edges.same("as it was then", told(x), "1=0 2=0");
            x.search(1);
            edges.same("as it is now", told(x), "2=0");
        });
    }

    private void ofOrder() {
        edges.sentence(32, "the RESULTS, the greatest SCORE first", () -> {
            // those with less have a later DATE, at first a smaller number and then a greater one
            QuarryIndex x = new QuarryIndex();
            QuarryIndex y = new QuarryIndex();
            for (int many = 1; many <= 12; many++) {
                Make.document(x, 100 - many, 0, fives(many));
                Make.document(y, 100 + many, 0, fives(13 - many));
            }
            x.flush();
            y.flush();
            edges.same("how many", x.search(x.term(5, 1)), 12);
            edges.same("how many, the other way round", y.search(y.term(5, 1)), 12);
            for (int place = 0; place < 12; place++) {
                edges.same("place " + place, x.resultAt(place), 11 - place);
                edges.same("place " + place + ", the other way round", y.resultAt(place), place);
            }
        });
        edges.sentence(32, "of several the later DATE", () -> {
            QuarryIndex x = new QuarryIndex();
            int[] dates = {0, 9999, 1, 9998};
            for (int date : dates) {
                Make.document(x, date, 0);
            }
            x.flush();
            x.kind(1);
            x.search(0);
            edges.same("the latest one first", told(x), "1=0 3=0 2=0 0=0");
        });
        edges.sentence(32, "of several the smaller number", () -> {
            QuarryIndex x = new QuarryIndex();
            for (int number = 0; number < 60; number++) {
                Make.document(x, number < 30 ? 7 : 8, 0);
            }
            x.flush();
            x.kind(1);
            x.search(0);
            for (int place = 0; place < 60; place++) {
                edges.same("place " + place, x.resultAt(place), (place + 30) % 60);
            }
        });
    }

    /** A full row with the TERM 5 so many times. */
    private static int[] fives(int many) {
        int[] row = new int[12];
        for (int place = 0; place < row.length; place++) {
            row[place] = place < many ? 5 : 9;
        }
        return row;
    }

    private void ofStaying() {
        edges.sentence(32, "They stay till the next search, whatever comes", () -> {
            List<Edges.Act> whatever = new ArrayList<>();
            whatever.add(x -> x.remove(3));
            whatever.add(x -> x.remove(3) ? x.compact() : -1);
            whatever.add(x -> x.setMute(5, true));
            whatever.add(x -> x.setWeight(0, 9));
            whatever.add(QuarryIndex::clear);
            whatever.add(x -> x.clear() + x.term(6, 1));
            whatever.add(x -> x.setAlias(6, 5));
            whatever.add(x -> Make.document(x, 9, 0, Make.row(5)) + x.flush());
            whatever.add(x -> x.search(-1));
            whatever.add(x -> x.search(1));
            whatever.add(x -> x.resultAt(4));
            for (int index = 0; index < whatever.size(); index++) {
                QuarryIndex x = four();
                x.search(0);
                Edges.Act act = whatever.get(index);
                Check.outcome(() -> act.on(x));
                edges.same("behind " + index, told(x), "3=108 1=100 2=100 0=100");
                edges.same("by KIND behind " + index, x.ofKind(2), 2);
                edges.same("by DATES behind " + index, x.ofDates(0, 1), 1);
            }
            QuarryIndex x = four();
            x.search(0);
            edges.same("the next one finds none", x.search(x.term(6, 1)), 0);
            edges.same("none stays", told(x), "");
            edges.same("nor by KIND", x.ofKind(2), 0);
            x.search(0);
            edges.same("the next one", told(x), "3=108 1=100 2=100 0=100");
        });
    }

    private void ofResults() {
        edges.sentence(33, "0 ahead of the first search", () -> {
            QuarryIndex x = four();
            edges.same("ahead", x.results(), 0);
            edges.refused("there is no place", Edges.BOUNDS, x, y -> y.resultAt(0));
            edges.refused("nor a wrong search", Edges.BOUNDS, x, y -> y.search(1));
            edges.same("still none", x.results(), 0);
        });
        edges.sentence(33, "Returns how many RESULTS there are", () -> {
            QuarryIndex x = four();
            x.search(0);
            edges.same("four", x.results(), 4);
            x.search(x.term(6, 1));
            edges.same("none", x.results(), 0);
            QuarryIndex y = Edges.made(Stock::sixty);
            y.flush();
            y.search(y.kind(255));
            edges.same("all that are not GONE", y.results(), 57);
        });
        edges.sentence(34, "Returns the DOCUMENT there", () -> {
            QuarryIndex x = four();
            x.search(0);
            edges.same("the first place", x.resultAt(0), 3);
            edges.same("the last place", x.resultAt(3), 0);
            edges.refused("behind it", Edges.BOUNDS, x, y -> y.resultAt(4));
        });
        edges.sentence(34, "a place among the RESULTS, from 0 on", () -> {
            QuarryIndex x = Edges.made(Stock::sixty);
            x.flush();
            x.search(x.kind(255));
            edges.same("the last place of 57", x.resultAt(56), 0);
            edges.same("the first place of 57", x.resultAt(0), 1);
            edges.refused("behind the last place", Edges.BOUNDS, x, y -> y.resultAt(57));
            edges.refused("ahead of the first place", Edges.BOUNDS, x, y -> y.resultAt(-1));
        });
        edges.sentence(35, "Returns its SCORE as it was found", () -> {
            QuarryIndex x = four();
            x.search(0);
            edges.same("the first place", x.scoreAt(0), 108);
            edges.same("the last place", x.scoreAt(3), 100);
            edges.refused("behind it", Edges.BOUNDS, x, y -> y.scoreAt(4));
            x.setWeight(0, 2);
            edges.same("it is another one now", x.score(0, 3), 216);
            edges.same("as it was found", x.scoreAt(0), 108);
            x.search(x.scaled(0, 0));
            edges.same("a SCORE of 0", x.scoreAt(0), 0);
        });
    }

    private void ofKinds() {
        edges.sentence(36, "Returns how many of the RESULTS have it", () -> {
            QuarryIndex x = four();
            edges.same("ahead of the first search", x.ofKind(1), 0);
            x.search(0);
            int[] due = {0, 1, 2, 0, 0, 0, 0, 1};
            for (int kind = 0; kind < 8; kind++) {
                edges.same("KIND " + kind, x.ofKind(kind), due[kind]);
            }
            x.search(x.kind(4));
            edges.same("not among the RESULTS", x.ofKind(1), 0);
            edges.same("among them", x.ofKind(2), 2);
        });
    }

    private void ofDates() {
        edges.sentence(37, "Returns how many of the RESULTS have one of so many DATES from that one on", () -> {
            QuarryIndex x = new QuarryIndex();
            int[] dates = {0, 10, 20, 9999};
            for (int date : dates) {
                Make.document(x, date, 0);
            }
            x.flush();
            edges.same("ahead of the first search", x.ofDates(0, 10000), 0);
            x.search(x.kind(1));
            edges.same("the first DATE alone", x.ofDates(0, 1), 1);
            edges.same("up to 9", x.ofDates(0, 10), 1);
            edges.same("up to 10", x.ofDates(0, 11), 2);
            edges.same("from 10", x.ofDates(10, 10), 1);
            edges.same("from 10 up to 20", x.ofDates(10, 11), 2);
            edges.same("from 11 up to 19", x.ofDates(11, 9), 0);
            edges.same("up to 9998", x.ofDates(0, 9999), 3);
            edges.same("all", x.ofDates(0, 10000), 4);
            edges.same("from 1 on, past the last DATE", x.ofDates(1, 10000), 3);
            edges.same("from the last DATE on", x.ofDates(9999, 10000), 1);
            edges.same("the last DATE alone", x.ofDates(9999, 1), 1);
            edges.same("ahead of the last DATE", x.ofDates(21, 9978), 0);
        });
    }

    private void ofWindows() {
        edges.sentence(38, "so many places one behind the other, from any place of it on", () -> {
            for (int place = 0; place < 12; place++) {
                int[] row = {9, 9, 9, 9, 9, 9, 9, 9, 9, 9, 9, 9};
                row[place] = 1;
                QuarryIndex x = new QuarryIndex();
                Make.document(x, 0, 0, row);
                x.term(1, 1);
                for (int width = 1; width <= 12; width++) {
                    edges.same("place " + place + ", width " + width, x.window(0, 0, 0, width),
                            Math.max(0, place - width + 1));
                }
            }
        });
        edges.sentence(38, "as far as the FIELD goes", () -> {
            QuarryIndex x = new QuarryIndex();
            Make.document(x, 0, 0, Make.row(9, 1), Make.row(1));
            x.term(1, 7);
            edges.same("wider than the FIELD", x.window(0, 0, 0, 3), 0);
            edges.same("the widest one", x.window(0, 0, 0, 12), 0);
            edges.same("as wide as the FIELD", x.window(0, 0, 0, 2), 0);
            edges.same("the last place alone", x.window(0, 0, 0, 1), 1);
            edges.same("a FIELD of one place", x.window(0, 0, 1, 12), 0);
        });
        edges.sentence(38, "Returns the place at which it begins", () -> {
            QuarryIndex x = new QuarryIndex();
            Make.document(x, 0, 0, Make.row(1, 9, 9, 9, 9, 9, 9, 9, 9, 9, 2, 3));
            for (int term = 1; term <= 3; term++) {
                x.term(term, 1);
            }
            edges.same("the first place", x.window(0, 0, 0, 1), 0);
            edges.same("the last place", x.window(0, 2, 0, 1), 11);
            edges.same("two at the end", x.window(0, x.most(0, 3, 1), 0, 2), 10);
            x.remove(0);
            edges.same("of one that is GONE", x.window(0, 2, 0, 1), 11);
        });
        edges.sentence(38, "-1 if there is no such TERM in any", () -> {
            QuarryIndex x = new QuarryIndex();
            Make.document(x, 0, 0, Make.row(0, 1), Make.row());
            x.term(5, 7);
            x.term(0, 7);
            edges.same("another TERM", x.window(0, 0, 0, 12), -1);
            edges.same("the first TERM at the first place", x.window(0, 1, 0, 12), 0);
            edges.same("an empty FIELD", x.window(0, 1, 1, 12), -1);
            edges.same("no TERM NODE in it", x.window(0, x.kind(1), 0, 12), -1);
        });
    }

    private void ofWindowCounts() {
        edges.sentence(38, "the one in which the most different TERMS are", () -> {
            QuarryIndex x = new QuarryIndex();
            Make.document(x, 0, 0, Make.row(1, 1, 1, 9, 1, 9, 2, 3));
            for (int term = 1; term <= 3; term++) {
                x.term(term, 1);
            }
            x.most(0, 3, 1);
            edges.same("two different ones ahead of three times the same", x.window(0, 3, 0, 3), 4);
            edges.same("two side by side", x.window(0, 3, 0, 2), 6);
            edges.same("all three", x.window(0, 3, 0, 4), 4);
        });
        edges.sentence(38, "of several the first one", () -> {
            QuarryIndex x = new QuarryIndex();
            Make.document(x, 0, 0, Make.row(9, 1, 2, 9, 2, 1, 9, 1));
            x.term(1, 1);
            x.term(2, 1);
            x.or(0, 1);
            edges.same("two places", x.window(0, 2, 0, 2), 1);
            edges.same("one place", x.window(0, 0, 0, 1), 1);
            edges.same("three places, one ahead", x.window(0, 2, 0, 3), 0);
        });
    }

    private void ofWindowTerms() {
        edges.sentence(38, "ALIASES and FIELDS they are for looked at, MUTE ones not", () -> {
            QuarryIndex x = new QuarryIndex();
            Make.document(x, 0, 0, Make.row(9, 1, 2), Make.row(2, 1));
            x.term(1, 1);
            edges.same("a FIELD it is not for", x.window(0, 0, 1, 1), -1);
            edges.same("a FIELD it is for", x.window(0, 0, 0, 1), 1);
            x.setAlias(1, 2);
            edges.same("the TERM and its ALIAS", x.window(0, 0, 0, 2), 1);
            x.setMute(1, true);
            edges.same("its ALIAS alone", x.window(0, 0, 0, 1), 2);
            x.setMute(2, true);
            edges.same("both are MUTE", x.window(0, 0, 0, 1), -1);
            x.setMute(1, false);
            edges.same("the TERM alone", x.window(0, 0, 0, 2), 0);
            x.setMute(2, false);
            x.setAlias(1, -1);
            x.setAlias(5, 1);
            edges.same("not the other way round", x.window(0, x.term(1, 2), 1, 1), 1);
        });
    }

    private void ofWindowNodes() {
        edges.sentence(38, "for which the TERM NODES look that are in a NODE (itself, or however deep", () -> {
            QuarryIndex x = new QuarryIndex();
            Make.document(x, 0, 0, Make.row(9, 3, 1, 2));
            x.term(1, 1);
            x.term(2, 1);
            edges.same("itself", x.window(0, 1, 0, 1), 3);
            edges.same("the first one of two", x.window(0, x.and(0, 1), 0, 1), 2);
            edges.same("both of two", x.window(0, 2, 0, 2), 2);
            edges.same("NEAR", x.window(0, x.near(1, 0, 1, false), 0, 2), 2);
            int node = x.or(0, 0);
            while (x.nodes() < 28) {
                node = x.scaled(node, 0);
            }
            edges.same("however deep", x.window(0, node, 0, 1), 2);
            x.term(3, 1);
            edges.same("none of the others", x.window(0, node, 0, 12), 0);
            edges.same("MOST, the last one of its NODES", x.window(0, x.most(25, 4, 1), 0, 1), 1);
        });
        edges.sentence(38, "the second one of a NOT left out, if they are not in it otherwise", () -> {
            QuarryIndex x = new QuarryIndex();
            Make.document(x, 0, 0, Make.row(1, 2));
            x.term(1, 1);
            x.term(2, 1);
            int not = x.not(1, 0);
            edges.same("the first one of a NOT", x.window(0, not, 0, 1), 1);
            edges.same("and not the second one", x.window(0, not, 0, 2), 0);
            int denied = x.not(x.kind(1), 0);
            edges.same("the second one alone", x.window(0, denied, 0, 2), -1);
            edges.same("in it otherwise", x.window(0, x.and(denied, 0), 0, 1), 0);
            edges.same("both of a NOT", x.window(0, x.not(0, 0), 0, 1), 0);
            edges.same("a NOT in a second one", x.window(0, x.not(1, not), 0, 1), 1);
            edges.same("all that is in a second one", x.window(0, x.not(x.kind(1), x.and(0, 1)), 0, 2), -1);
            edges.same("a NOT that is deep", x.window(0, x.scaled(denied, 1), 0, 2), -1);
        });
    }
}
