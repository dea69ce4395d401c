import java.math.BigInteger;

/** The checksum of what the other calls tell; fresh engines are asked, since each may be called 512 times. */
final class Digests {
    private static final BigInteger ALL = BigInteger.ONE.shiftLeft(64);

    private BigInteger sum = BigInteger.valueOf(2609);

    private Digests() {
    }

    static long byCalls(Edges.Recipe state) {
        Digests digest = new Digests();
        digest.addDocuments(Edges.made(state));
        int nodes = Edges.made(state).nodes();
        digest.add(nodes);
        for (int node = 0; node < nodes; node++) {
            digest.addNode(Edges.made(state), node);
        }
        digest.addResults(Edges.made(state));
        QuarryIndex x = Edges.made(state);
        for (int document = 0; document < x.documents(); document++) {
            digest.add(x.like(document));
        }
        return digest.sum.longValue();
    }

    private void add(int value) {
        sum = sum.multiply(BigInteger.valueOf(31)).add(BigInteger.valueOf(value)).mod(ALL);
    }

    private void addDocuments(QuarryIndex x) {
        int documents = x.documents();
        add(documents);
        for (int document = 0; document < documents; document++) {
            add(x.stateOf(document));
        }
        int segments = x.segments();
        add(segments);
        for (int segment = 0; segment < segments; segment++) {
            add(x.tierOf(segment));
            add(x.sizeOf(segment));
        }
    }

    private void addNode(QuarryIndex x, int node) {
        add(x.found(node));
        add(x.cost(node));
        int documents = x.documents();
        for (int document = 0; document < documents; document++) {
            add(x.score(node, document));
        }
    }

    private void addResults(QuarryIndex x) {
        int results = x.results();
        add(results);
        for (int place = 0; place < results; place++) {
            add(x.resultAt(place));
            add(x.scoreAt(place));
        }
        for (int kind = 0; kind < 8; kind++) {
            add(x.ofKind(kind));
        }
    }
}
