import java.util.ArrayList;
import java.util.Collections;
import java.util.HashMap;
import java.util.HashSet;
import java.util.List;
import java.util.Map;
import java.util.Set;
import java.util.TreeSet;

/**
 * The document told once more, in its plainest words and with none of the program's shortcuts: nothing is
 * kept that can be counted, and what would be is asked of a copy that is really flushed and compacted.
 */
final class Reference {
    private static final class Doc {
        int date;
        int kind;
        boolean gone;
        List<List<Integer>> fields = List.of(new ArrayList<>(), new ArrayList<>(), new ArrayList<>());
    }

    private static final class Segment {
        int tier;
        List<Integer> docs = new ArrayList<>();
    }

    private static final class Node {
        String type;
        int[] parts = {};
        int[] values = {};

        Node(String type, int[] parts, int... values) {
            this.type = type;
            this.parts = parts;
            this.values = values;
        }
    }

    private List<Doc> docs = new ArrayList<>();
    private Doc opened;
    private List<Integer> buffer = new ArrayList<>();
    private List<Segment> segments = new ArrayList<>();
    private Set<Integer> mutes = new HashSet<>();
    private Map<Integer, Integer> aliases = new HashMap<>();
    private int[] weights = {1, 1, 1};
    private List<Node> nodes = new ArrayList<>();
    private List<int[]> results = new ArrayList<>();

    private static void argument(boolean holds) {
        if (!holds) {
            throw new IllegalArgumentException();
        }
    }

    private static void bounds(boolean holds) {
        if (!holds) {
            throw new IndexOutOfBoundsException();
        }
    }

    private static void state(boolean holds) {
        if (!holds) {
            throw new IllegalStateException();
        }
    }

    private static boolean in(int value, int low, int high) {
        return low <= value && value <= high;
    }

    int open(int date, int kind) {
        argument(in(date, 0, 9999) && in(kind, 0, 7));
        state(opened == null && docs.size() < 60);
        opened = new Doc();
        opened.date = date;
        opened.kind = kind;
        return docs.size();
    }

    int write(int field, int term) {
        argument(in(field, 0, 2) && in(term, 0, 199));
        state(opened != null && opened.fields.get(field).size() < 12);
        opened.fields.get(field).add(term);
        return opened.fields.get(field).size();
    }

    int close() {
        state(opened != null);
        buffer.add(docs.size());
        docs.add(opened);
        opened = null;
        return buffer.size();
    }

    int remove(int document) {
        bounds(in(document, 0, docs.size() - 1));
        Doc doc = docs.get(document);
        boolean was = doc.gone;
        doc.gone = true;
        return was ? 0 : 1;
    }

    int setMute(int term, boolean isMute) {
        argument(in(term, 0, 199));
        boolean was = mutes.contains(term);
        if (isMute) {
            mutes.add(term);
        } else {
            mutes.remove(term);
        }
        return was ? 1 : 0;
    }

    int setAlias(int term, int alias) {
        argument(in(term, 0, 199) && in(alias, -1, 199) && alias != term);
        int before = aliases.getOrDefault(term, -1);
        aliases.put(term, alias);
        return before;
    }

    int setWeight(int field, int weight) {
        argument(in(field, 0, 2) && in(weight, 1, 9));
        int before = weights[field];
        weights[field] = weight;
        return before;
    }

    int documents() {
        return docs.size();
    }

    int stateOf(int document) {
        bounds(in(document, 0, docs.size() - 1));
        return docs.get(document).gone ? 0 : buffer.contains(document) ? 1 : 2;
    }

    int termAt(int document, int field, int place) {
        bounds(in(document, 0, docs.size() - 1) && in(field, 0, 2));
        List<Integer> row = docs.get(document).fields.get(field);
        bounds(in(place, 0, row.size() - 1));
        return row.get(place);
    }

    int flush() {
        int many = buffer.size();
        if (many > 0) {
            Segment segment = new Segment();
            segment.docs = buffer;
            segments.add(segment);
            buffer = new ArrayList<>();
        }
        while (segments.size() >= 3) {
            List<Segment> last = segments.subList(segments.size() - 3, segments.size());
            if (last.get(0).tier != last.get(1).tier || last.get(1).tier != last.get(2).tier) {
                break;
            }
            merge(last, last.get(0).tier + 1);
        }
        return many;
    }

    private void merge(List<Segment> merged, int tier) {
        Set<Integer> kept = new TreeSet<>();
        for (Segment segment : merged) {
            for (int document : segment.docs) {
                if (!docs.get(document).gone) {
                    kept.add(document);
                }
            }
        }
        merged.clear();
        if (!kept.isEmpty()) {
            Segment segment = new Segment();
            segment.tier = tier;
            segment.docs.addAll(kept);
            segments.add(segment);
        }
    }

    private List<Integer> lying() {
        List<Integer> all = new ArrayList<>();
        for (Segment segment : segments) {
            all.addAll(segment.docs);
        }
        return all;
    }

    private List<Integer> findable() {
        List<Integer> all = lying();
        all.removeIf(document -> docs.get(document).gone);
        return all;
    }

    int compact() {
        int before = lying().size();
        int tier = 0;
        for (Segment segment : segments) {
            tier = Math.max(tier, segment.tier);
        }
        merge(segments, tier);
        return before - lying().size();
    }

    int segments() {
        return segments.size();
    }

    int tierOf(int segment) {
        bounds(in(segment, 0, segments.size() - 1));
        return segments.get(segment).tier;
    }

    int sizeOf(int segment) {
        bounds(in(segment, 0, segments.size() - 1));
        return segments.get(segment).docs.size();
    }

    int spread(int term, int field) {
        argument(in(term, 0, 199) && in(field, 0, 2));
        int many = 0;
        for (int document : lying()) {
            if (docs.get(document).fields.get(field).contains(term)) {
                many++;
            }
        }
        return many;
    }

    int rare(int term, int field) {
        argument(in(term, 0, 199) && in(field, 0, 2));
        int square = 10000 * (lying().size() + 1) / (spread(term, field) + 1);
        int root = 0;
        while ((root + 1) * (root + 1) <= square) {
            root++;
        }
        return root;
    }

    private int taste(int term, int field, int document) {
        List<Integer> row = docs.get(document).fields.get(field);
        int c = Collections.frequency(row, term);
        if (c == 0) {
            return 0;
        }
        int l = row.size();
        int n = lying().size();
        int all = 0;
        for (int other : lying()) {
            all += docs.get(other).fields.get(field).size();
        }
        return rare(term, field) * c * 20 / (10 * c + 3 + 9 * l * n / all) * weights[field];
    }

    private int add(Node node) {
        state(nodes.size() < 30);
        nodes.add(node);
        return nodes.size() - 1;
    }

    private boolean isNode(int node) {
        return in(node, 0, nodes.size() - 1);
    }

    int term(int term, int fields) {
        argument(in(term, 0, 199) && in(fields, 1, 7));
        return add(new Node("TERM", new int[0], term, fields));
    }

    int and(int one, int other) {
        bounds(isNode(one) && isNode(other));
        return add(new Node("AND", new int[] {one, other}));
    }

    int or(int one, int other) {
        bounds(isNode(one) && isNode(other));
        return add(new Node("OR", new int[] {one, other}));
    }

    int not(int one, int other) {
        bounds(isNode(one) && isNode(other));
        return add(new Node("NOT", new int[] {one, other}));
    }

    int near(int one, int other, int distance, boolean isOrdered) {
        bounds(isNode(one) && isNode(other));
        argument(nodes.get(one).type.equals("TERM") && nodes.get(other).type.equals("TERM"));
        argument(in(distance, 1, 10));
        return add(new Node("NEAR", new int[] {one, other}, isOrdered ? 1 : -distance, distance));
    }

    int dated(int from, int to) {
        argument(in(from, 0, 9999) && in(to, 0, 9999));
        return add(new Node("DATED", new int[0], from, to));
    }

    int kind(int kinds) {
        argument(in(kinds, 1, 255));
        return add(new Node("KIND", new int[0], kinds));
    }

    int scaled(int node, int parts) {
        bounds(isNode(node));
        argument(in(parts, 0, 500));
        return add(new Node("SCALED", new int[] {node}, parts));
    }

    int most(int first, int many, int least) {
        bounds(isNode(first));
        bounds((long) first + many <= nodes.size());
        argument(in(many, 2, 4) && in(least, 1, many));
        int[] parts = new int[many];
        for (int index = 0; index < many; index++) {
            parts[index] = first + index;
        }
        return add(new Node("MOST", parts, least));
    }

    int clear() {
        int many = nodes.size();
        nodes.clear();
        return many;
    }

    int nodes() {
        return nodes.size();
    }

    private Set<Integer> sought(int term) {
        Set<Integer> all = new TreeSet<>();
        all.add(term);
        int alias = aliases.getOrDefault(term, -1);
        if (alias >= 0) {
            all.add(alias);
        }
        all.removeAll(mutes);
        return all;
    }

    private int value(int number, int document, Map<Integer, Integer> known) {
        if (!known.containsKey(number)) {
            known.put(number, Math.min(1000000, uncutValue(nodes.get(number), document, known)));
        }
        return known.get(number);
    }

    private int uncutValue(Node node, int document, Map<Integer, Integer> known) {
        Doc doc = docs.get(document);
        List<Integer> found = new ArrayList<>();
        for (int part : node.parts) {
            int value = value(part, document, known);
            if (value >= 0) {
                found.add(value);
            }
        }
        int sum = found.stream().mapToInt(Integer::intValue).sum();
        switch (node.type) {
            case "TERM": {
                boolean has = false;
                for (int field = 0; field < 3; field++) {
                    for (int term : sought(node.values[0])) {
                        if ((node.values[1] & 1 << field) != 0) {
                            has |= doc.fields.get(field).contains(term);
                            sum += taste(term, field, document);
                        }
                    }
                }
                return has ? sum : -1;
            }
            case "AND":
                return found.size() == 2 ? sum : -1;
            case "OR":
                return found.isEmpty() ? -1 : sum;
            case "NOT":
                return value(node.parts[1], document, known) >= 0 ? -1 : value(node.parts[0], document, known);
            case "NEAR": {
                int fields = nearFields(node, doc);
                return found.size() == 2 && fields > 0 ? sum + 100 * fields : -1;
            }
            case "DATED":
                return in(doc.date, node.values[0], node.values[1]) ? 0 : -1;
            case "KIND":
                return (node.values[0] & 1 << doc.kind) != 0 ? 0 : -1;
            case "SCALED":
                return found.isEmpty() ? -1 : sum * node.values[0] / 100;
            default:
                return found.size() >= node.values[0] ? sum : -1;
        }
    }

    private int nearFields(Node near, Doc doc) {
        Node first = nodes.get(near.parts[0]);
        Node second = nodes.get(near.parts[1]);
        int fields = 0;
        for (int field = 0; field < 3; field++) {
            boolean isNear = false;
            List<Integer> row = doc.fields.get(field);
            for (int p = 0; p < row.size(); p++) {
                for (int q = 0; q < row.size(); q++) {
                    isNear |= p != q && in(q - p, near.values[0], near.values[1])
                            && sought(first.values[0]).contains(row.get(p))
                            && sought(second.values[0]).contains(row.get(q));
                }
            }
            if (isNear && (first.values[1] & second.values[1] & 1 << field) != 0) {
                fields++;
            }
        }
        return fields;
    }

    int score(int node, int document) {
        bounds(isNode(node) && in(document, 0, docs.size() - 1));
        return findable().contains(document) ? value(node, document, new HashMap<>()) : -1;
    }

    private List<Integer> finds(int node) {
        List<Integer> found = new ArrayList<>();
        for (int document : findable()) {
            if (score(node, document) >= 0) {
                found.add(document);
            }
        }
        return found;
    }

    int found(int node) {
        bounds(isNode(node));
        return finds(node).size();
    }

    int search(int node) {
        bounds(isNode(node));
        results = new ArrayList<>();
        for (int document : finds(node)) {
            results.add(new int[] {document, score(node, document)});
        }
        results.sort((a, b) -> {
            int byScore = Integer.compare(b[1], a[1]);
            int byDate = Integer.compare(docs.get(b[0]).date, docs.get(a[0]).date);
            return byScore != 0 ? byScore : byDate != 0 ? byDate : Integer.compare(a[0], b[0]);
        });
        return results.size();
    }

    int results() {
        return results.size();
    }

    int resultAt(int place) {
        bounds(in(place, 0, results.size() - 1));
        return results.get(place)[0];
    }

    int scoreAt(int place) {
        bounds(in(place, 0, results.size() - 1));
        return results.get(place)[1];
    }

    int ofKind(int kind) {
        argument(in(kind, 0, 7));
        return (int) results.stream().filter(result -> docs.get(result[0]).kind == kind).count();
    }

    int ofDates(int from, int width) {
        argument(in(from, 0, 9999) && in(width, 1, 10000));
        return (int) results.stream().filter(result -> in(docs.get(result[0]).date, from, from + width - 1)).count();
    }

    private void collect(int node, boolean leavesOutDenied, Set<Integer> inside) {
        inside.add(node);
        int[] parts = nodes.get(node).parts;
        for (int index = 0; index < parts.length; index++) {
            boolean isDenied = nodes.get(node).type.equals("NOT") && index == 1;
            if (!(leavesOutDenied && isDenied) && !inside.contains(parts[index])) {
                collect(parts[index], leavesOutDenied, inside);
            }
        }
    }

    int window(int document, int node, int field, int width) {
        bounds(in(document, 0, docs.size() - 1) && isNode(node) && in(field, 0, 2));
        argument(in(width, 1, 12));
        Set<Integer> inside = new HashSet<>();
        collect(node, true, inside);
        Set<Integer> terms = new HashSet<>();
        for (int number : inside) {
            Node part = nodes.get(number);
            if (part.type.equals("TERM") && (part.values[1] & 1 << field) != 0) {
                terms.addAll(sought(part.values[0]));
            }
        }
        List<Integer> row = docs.get(document).fields.get(field);
        int best = -1;
        int most = 0;
        for (int start = 0; start < row.size(); start++) {
            Set<Integer> seen = new HashSet<>(row.subList(start, Math.min(row.size(), start + width)));
            seen.retainAll(terms);
            if (seen.size() > most) {
                most = seen.size();
                best = start;
            }
        }
        return best;
    }

    int like(int document) {
        bounds(in(document, 0, docs.size() - 1));
        int best = -1;
        int most = 0;
        List<Integer> others = findable();
        Collections.sort(others);
        for (int other : others) {
            int sum = 0;
            for (int field = 0; field < 3 && other != document; field++) {
                Set<Integer> both = new HashSet<>(docs.get(document).fields.get(field));
                both.retainAll(docs.get(other).fields.get(field));
                both.removeAll(mutes);
                for (int term : both) {
                    sum += rare(term, field);
                }
            }
            if (sum > most) {
                most = sum;
                best = other;
            }
        }
        return best;
    }

    private boolean hasAnywhere(int document, int term) {
        return docs.get(document).fields.stream().anyMatch(row -> row.contains(term));
    }

    int mate(int term) {
        argument(in(term, 0, 199) && !mutes.contains(term));
        int best = -1;
        int most = 0;
        int fewest = 0;
        for (int other = 0; other < 200; other++) {
            int both = 0;
            int all = 0;
            for (int document : findable()) {
                if (hasAnywhere(document, other)) {
                    all++;
                    both += hasAnywhere(document, term) ? 1 : 0;
                }
            }
            boolean isBetter = both > most || both == most && both > 0 && all < fewest;
            if (other != term && !mutes.contains(other) && isBetter) {
                best = other;
                most = both;
                fewest = all;
            }
        }
        return best;
    }

    int cost(int node) {
        bounds(isNode(node));
        Set<Integer> inside = new HashSet<>();
        collect(node, false, inside);
        int sum = 0;
        for (int number : inside) {
            Node part = nodes.get(number);
            for (int field = 0; field < 3 && part.type.equals("TERM"); field++) {
                for (int term : sought(part.values[0])) {
                    sum += (part.values[1] & 1 << field) != 0 ? spread(term, field) : 0;
                }
            }
        }
        return sum;
    }

    int byAlias(int node) {
        bounds(isNode(node));
        List<Integer> with = finds(node);
        Map<Integer, Integer> kept = aliases;
        aliases = new HashMap<>();
        with.removeAll(finds(node));
        aliases = kept;
        return with.size();
    }

    int wouldScore(int node, int document) {
        bounds(isNode(node) && in(document, 0, docs.size() - 1));
        List<Segment> keptSegments = segments;
        List<Integer> keptBuffer = buffer;
        segments = new ArrayList<>();
        for (Segment segment : keptSegments) {
            Segment copy = new Segment();
            copy.tier = segment.tier;
            copy.docs.addAll(segment.docs);
            segments.add(copy);
        }
        buffer = new ArrayList<>(keptBuffer);
        flush();
        compact();
        int told = score(node, document);
        segments = keptSegments;
        buffer = keptBuffer;
        return told;
    }

    double waste() {
        int all = lying().size();
        return all == 0 ? 0 : (all - findable().size()) / (double) all;
    }

    long digest() {
        List<Integer> told = new ArrayList<>();
        told.add(documents());
        for (int document = 0; document < documents(); document++) {
            told.add(stateOf(document));
        }
        told.add(segments());
        for (int segment = 0; segment < segments(); segment++) {
            told.add(tierOf(segment));
            told.add(sizeOf(segment));
        }
        told.add(nodes());
        for (int node = 0; node < nodes(); node++) {
            told.add(found(node));
            told.add(cost(node));
            for (int document = 0; document < documents(); document++) {
                told.add(score(node, document));
            }
        }
        told.add(results());
        for (int place = 0; place < results(); place++) {
            told.add(resultAt(place));
            told.add(scoreAt(place));
        }
        for (int kind = 0; kind < 8; kind++) {
            told.add(ofKind(kind));
        }
        for (int document = 0; document < documents(); document++) {
            told.add(like(document));
        }
        long sum = 2609;
        for (int value : told) {
            sum = sum * 31 + value;
        }
        return sum;
    }
}
