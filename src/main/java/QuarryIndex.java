import java.util.Arrays;

/**
 * A search engine: documents are told term by term, flushed into segments and merged; queries are
 * built node by node. The document ../shared/DOC.md says what each call answers.
 */
public final class QuarryIndex {
    private static final int TERM_LIMIT = 200;
    private static final int FIELD_LIMIT = 3;
    private static final int PLACE_LIMIT = 12;
    private static final int DOCUMENT_LIMIT = 60;
    private static final int NODE_LIMIT = 30;
    private static final int DATE_LIMIT = 10000;
    private static final int KIND_LIMIT = 8;
    private static final int WEIGHT_LIMIT = 9;
    private static final int DISTANCE_LIMIT = 10;
    private static final int PARTS_LIMIT = 500;
    private static final int SCORE_LIMIT = 1000000;
    private static final int NOT_FOUND = -1;
    private static final int NONE = -1;

    private final Archive archive;
    private final Lexicon lexicon;
    private final Query query;
    private final Results hits;
    private final Kin kin;
    private final Census futureCensus;
    private final Scorer scorer;
    private final Scorer aliaslessScorer;
    private final Scorer futureScorer;
    private final int[][] scoresByNode;

    public QuarryIndex() {
        archive = new Archive();
        lexicon = new Lexicon();
        query = new Query(lexicon);
        hits = new Results();
        kin = new Kin(archive, lexicon);
        futureCensus = new Census();
        scorer = new Scorer(query, lexicon, archive.census, true);
        aliaslessScorer = new Scorer(query, lexicon, archive.census, false);
        futureScorer = new Scorer(query, lexicon, futureCensus, true);
        scoresByNode = new int[NODE_LIMIT][DOCUMENT_LIMIT];
    }

    // ---- documents

    public int open(int date, int kind) throws IllegalArgumentException, IllegalStateException {
        if (!isDate(date) || !isKind(kind)) {
            throw new IllegalArgumentException("there is no such date or kind");
        }
        if (archive.opened != null || archive.isFull()) {
            throw new IllegalStateException("a document is open, or 60 have a number");
        }
        archive.opened = new Document(date, kind);
        return archive.count;
    }

    public int write(int field, int term) throws IllegalArgumentException, IllegalStateException {
        if (!isField(field) || !isTerm(term)) {
            throw new IllegalArgumentException("there is no such field or term");
        }
        Document document = archive.opened;
        if (document == null) {
            throw new IllegalStateException("no document is open");
        }
        TermRow row = document.rowOf(field);
        if (row == null || row.isFull()) {
            throw new IllegalStateException("the field is full");
        }
        row.append(term);
        return row.length;
    }

    public int close() throws IllegalStateException {
        if (archive.opened == null) {
            throw new IllegalStateException("no document is open");
        }
        archive.takeIn();
        return archive.bufferSize();
    }

    public boolean remove(int document) throws IndexOutOfBoundsException {
        Document removed = archive.documentAt(document);
        if (removed == null) {
            throw new IndexOutOfBoundsException("there is no such document");
        }
        boolean wasThere = !removed.isGone;
        removed.isGone = true;
        return wasThere;
    }

    public boolean setMute(int term, boolean isMute) throws IllegalArgumentException {
        if (!isTerm(term)) {
            throw new IllegalArgumentException("there is no such term");
        }
        boolean wasMute = lexicon.isMuted(term);
        lexicon.putMute(term, isMute);
        return wasMute;
    }

    public int setAlias(int term, int alias) throws IllegalArgumentException {
        if (!isTerm(term) || alias != NONE && !isTerm(alias) || alias == term) {
            throw new IllegalArgumentException("there is no such term or alias");
        }
        int before = lexicon.aliasOf(term);
        lexicon.putAlias(term, alias);
        return before;
    }

    public int setWeight(int field, int weight) throws IllegalArgumentException {
        if (!isField(field) || weight < 1 || weight > WEIGHT_LIMIT) {
            throw new IllegalArgumentException("there is no such field or weight");
        }
        int before = lexicon.weightOf(field);
        lexicon.putWeight(field, weight);
        return before;
    }

    public int documents() {
        return archive.count;
    }

    public int stateOf(int document) throws IndexOutOfBoundsException {
        Document asked = archive.documentAt(document);
        if (asked == null) {
            throw new IndexOutOfBoundsException("there is no such document");
        }
        return asked.state();
    }

    public int termAt(int document, int field, int place) throws IndexOutOfBoundsException {
        Document asked = archive.documentAt(document);
        TermRow row = asked == null ? null : asked.rowOf(field);
        if (row == null || place < 0 || place >= row.length) {
            throw new IndexOutOfBoundsException("there is no such document, field or place");
        }
        return row.termOn(place);
    }

    // ---- segments

    public int flush() {
        return archive.flushBuffer();
    }

    public int compact() {
        return archive.mergeAll();
    }

    public int segments() {
        return archive.segmentCount;
    }

    public int tierOf(int segment) throws IndexOutOfBoundsException {
        if (!archive.hasSegment(segment)) {
            throw new IndexOutOfBoundsException("there is no such segment");
        }
        return archive.tierAt(segment);
    }

    public int sizeOf(int segment) throws IndexOutOfBoundsException {
        if (!archive.hasSegment(segment)) {
            throw new IndexOutOfBoundsException("there is no such segment");
        }
        return archive.countAt(segment);
    }

    public int spread(int term, int field) throws IllegalArgumentException {
        if (!isTerm(term) || !isField(field)) {
            throw new IllegalArgumentException("there is no such term or field");
        }
        return archive.census.spreadOf(term, field);
    }

    public int rare(int term, int field) throws IllegalArgumentException {
        if (!isTerm(term) || !isField(field)) {
            throw new IllegalArgumentException("there is no such term or field");
        }
        return archive.census.rarityOf(archive.census.spreadOf(term, field));
    }

    // ---- queries

    public int term(int term, int fields) throws IllegalArgumentException, IllegalStateException {
        if (!isTerm(term) || !isSetOf(FIELD_LIMIT, fields)) {
            throw new IllegalArgumentException("there is no such term or set of fields");
        }
        if (query.isFull()) {
            throw new IllegalStateException("there are 30 nodes");
        }
        Node node = new Node(Node.TERM);
        node.term = term;
        node.fields = fields;
        return query.append(node);
    }

    public int and(int one, int other) throws IndexOutOfBoundsException, IllegalStateException {
        return appendPair(Node.AND, one, other);
    }

    public int or(int one, int other) throws IndexOutOfBoundsException, IllegalStateException {
        return appendPair(Node.OR, one, other);
    }

    public int not(int one, int other) throws IndexOutOfBoundsException, IllegalStateException {
        return appendPair(Node.NOT, one, other);
    }

    private int appendPair(int type, int one, int other) {
        if (!query.hasNode(one) || !query.hasNode(other)) {
            throw new IndexOutOfBoundsException("there is no such node");
        }
        if (query.isFull()) {
            throw new IllegalStateException("there are 30 nodes");
        }
        Node node = new Node(type);
        node.one = one;
        node.other = other;
        return query.append(node);
    }

    public int near(int one, int other, int distance, boolean isOrdered)
            throws IndexOutOfBoundsException, IllegalArgumentException, IllegalStateException {
        Node first = query.nodeAt(one);
        Node second = query.nodeAt(other);
        if (first == null || second == null) {
            throw new IndexOutOfBoundsException("there is no such node");
        }
        if (first.type != Node.TERM || second.type != Node.TERM || distance < 1 || distance > DISTANCE_LIMIT) {
            throw new IllegalArgumentException("not two term nodes, or there is no such distance");
        }
        if (query.isFull()) {
            throw new IllegalStateException("there are 30 nodes");
        }
        Node node = new Node(Node.NEAR);
        node.one = one;
        node.other = other;
        node.distance = distance;
        node.isOrdered = isOrdered;
        return query.append(node);
    }

    public int dated(int from, int to) throws IllegalArgumentException, IllegalStateException {
        if (!isDate(from) || !isDate(to)) {
            throw new IllegalArgumentException("there is no such date");
        }
        if (query.isFull()) {
            throw new IllegalStateException("there are 30 nodes");
        }
        Node node = new Node(Node.DATED);
        node.from = from;
        node.to = to;
        return query.append(node);
    }

    public int kind(int kinds) throws IllegalArgumentException, IllegalStateException {
        if (!isSetOf(KIND_LIMIT, kinds)) {
            throw new IllegalArgumentException("there is no such set of kinds");
        }
        if (query.isFull()) {
            throw new IllegalStateException("there are 30 nodes");
        }
        Node node = new Node(Node.KIND);
        node.kinds = kinds;
        return query.append(node);
    }

    public int scaled(int node, int parts)
            throws IndexOutOfBoundsException, IllegalArgumentException, IllegalStateException {
        if (!query.hasNode(node)) {
            throw new IndexOutOfBoundsException("there is no such node");
        }
        if (parts < 0 || parts > PARTS_LIMIT) {
            throw new IllegalArgumentException("there are no such parts");
        }
        if (query.isFull()) {
            throw new IllegalStateException("there are 30 nodes");
        }
        Node added = new Node(Node.SCALED);
        added.one = node;
        added.percent = parts;
        return query.append(added);
    }

    public int most(int first, int many, int least)
            throws IndexOutOfBoundsException, IllegalArgumentException, IllegalStateException {
        if (!query.hasNode(first) || many > query.count - first) {
            throw new IndexOutOfBoundsException("there is no such node");
        }
        if (many < 2 || many > 4 || least < 1 || least > many) {
            throw new IllegalArgumentException("there is no such number of nodes");
        }
        if (query.isFull()) {
            throw new IllegalStateException("there are 30 nodes");
        }
        Node node = new Node(Node.MOST);
        node.one = first;
        node.many = many;
        node.least = least;
        return query.append(node);
    }

    public int clear() {
        return query.dropAll();
    }

    public int nodes() {
        return query.count;
    }

    public int score(int node, int document) throws IndexOutOfBoundsException {
        Document asked = archive.documentAt(document);
        if (!query.hasNode(node) || asked == null) {
            throw new IndexOutOfBoundsException("there is no such node or document");
        }
        return asked.canBeFound() ? scorer.scoreOf(asked, node) : NOT_FOUND;
    }

    public int found(int node) throws IndexOutOfBoundsException {
        if (!query.hasNode(node)) {
            throw new IndexOutOfBoundsException("there is no such node");
        }
        int many = 0;
        for (int number = 0; number < archive.count; number++) {
            if (scoreNow(number, node) != NOT_FOUND) {
                many++;
            }
        }
        return many;
    }

    private int scoreNow(int number, int node) {
        Document document = archive.documentAt(number);
        return document == null || !document.canBeFound() ? NOT_FOUND : scorer.scoreOf(document, node);
    }

    // ---- searching

    public int search(int node) throws IndexOutOfBoundsException {
        if (!query.hasNode(node)) {
            throw new IndexOutOfBoundsException("there is no such node");
        }
        hits.dropAll();
        for (int number = 0; number < archive.count; number++) {
            int score = scoreNow(number, node);
            if (score != NOT_FOUND) {
                hits.insert(archive.documentAt(number), number, score);
            }
        }
        return hits.count;
    }

    public int results() {
        return hits.count;
    }

    public int resultAt(int place) throws IndexOutOfBoundsException {
        if (!hits.hasPlace(place)) {
            throw new IndexOutOfBoundsException("there is no such place");
        }
        return hits.numberAt(place);
    }

    public int scoreAt(int place) throws IndexOutOfBoundsException {
        if (!hits.hasPlace(place)) {
            throw new IndexOutOfBoundsException("there is no such place");
        }
        return hits.valueAt(place);
    }

    public int ofKind(int kind) throws IllegalArgumentException {
        if (!isKind(kind)) {
            throw new IllegalArgumentException("there is no such kind");
        }
        return hits.countKind(kind);
    }

    public int ofDates(int from, int width) throws IllegalArgumentException {
        if (!isDate(from) || width < 1 || width > DATE_LIMIT) {
            throw new IllegalArgumentException("there is no such date or width");
        }
        return hits.countDates(from, from + width - 1);
    }

    public int window(int document, int node, int field, int width)
            throws IndexOutOfBoundsException, IllegalArgumentException {
        Document asked = archive.documentAt(document);
        TermRow row = asked == null ? null : asked.rowOf(field);
        if (row == null || !query.hasNode(node)) {
            throw new IndexOutOfBoundsException("there is no such document, node or field");
        }
        if (width < 1 || width > PLACE_LIMIT) {
            throw new IllegalArgumentException("there is no such width");
        }
        return query.bestWindow(node, row, field, width);
    }

    // ---- asking

    public int like(int document) throws IndexOutOfBoundsException {
        if (archive.documentAt(document) == null) {
            throw new IndexOutOfBoundsException("there is no such document");
        }
        return kin.mostLike(document);
    }

    public int mate(int term) throws IllegalArgumentException {
        if (!isTerm(term) || lexicon.isMuted(term)) {
            throw new IllegalArgumentException("there is no such term, or it is mute");
        }
        return kin.closestTerm(term);
    }

    public int cost(int node) throws IndexOutOfBoundsException {
        if (!query.hasNode(node)) {
            throw new IndexOutOfBoundsException("there is no such node");
        }
        return query.entriesOf(node, archive.census);
    }

    public int byAlias(int node) throws IndexOutOfBoundsException {
        if (!query.hasNode(node)) {
            throw new IndexOutOfBoundsException("there is no such node");
        }
        int many = 0;
        for (int number = 0; number < archive.count; number++) {
            Document document = archive.documentAt(number);
            if (document != null && document.canBeFound()
                    && scorer.scoreOf(document, node) != NOT_FOUND
                    && aliaslessScorer.scoreOf(document, node) == NOT_FOUND) {
                many++;
            }
        }
        return many;
    }

    public int wouldScore(int node, int document) throws IndexOutOfBoundsException {
        Document asked = archive.documentAt(document);
        if (!query.hasNode(node) || asked == null) {
            throw new IndexOutOfBoundsException("there is no such node or document");
        }
        if (asked.isGone) {
            return NOT_FOUND;
        }
        archive.countSurvivors(futureCensus);
        return futureScorer.scoreOf(asked, node);
    }

    public double waste() {
        int lying = archive.census.size;
        return lying <= 0 ? 0.0 : (double) archive.goneInSegments() / lying;
    }

    public long digest() {
        long sum = addArchive(2609L);
        fillScoresByNode();
        sum = addNodes(sum);
        sum = addResults(sum);
        for (int number = 0; number < archive.count; number++) {
            sum = sum * 31 + kin.mostLike(number);
        }
        return sum;
    }

    private long addArchive(long before) {
        long sum = before * 31 + archive.count;
        for (int number = 0; number < archive.count; number++) {
            Document document = archive.documentAt(number);
            sum = sum * 31 + (document == null ? 0 : document.state());
        }
        sum = sum * 31 + archive.segmentCount;
        for (int segment = 0; segment < archive.segmentCount; segment++) {
            sum = sum * 31 + archive.tierAt(segment);
            sum = sum * 31 + archive.countAt(segment);
        }
        return sum;
    }

    /** Adds what stands in the rows of scores, which are to be filled before. */
    private long addNodes(long before) {
        long sum = before * 31 + query.count;
        for (int node = 0; node < query.count && node < scoresByNode.length; node++) {
            int[] scores = scoresByNode[node];
            int many = Math.min(archive.count, scores.length);
            sum = sum * 31 + countFound(scores, many);
            sum = sum * 31 + query.entriesOf(node, archive.census);
            for (int number = 0; number < many; number++) {
                sum = sum * 31 + scores[number];
            }
        }
        return sum;
    }

    /** One pass for each document scores all nodes: asking node by node would score them again and again. */
    private void fillScoresByNode() {
        for (int number = 0; number < archive.count; number++) {
            Document document = archive.documentAt(number);
            boolean canBeFound = document != null && document.canBeFound();
            if (canBeFound) {
                scorer.scoreOf(document, query.count - 1);
            }
            for (int node = 0; node < query.count && node < scoresByNode.length; node++) {
                if (number < scoresByNode[node].length) {
                    scoresByNode[node][number] = canBeFound ? scorer.valueAt(node) : NOT_FOUND;
                }
            }
        }
    }

    private static int countFound(int[] scores, int many) {
        int sum = 0;
        for (int number = 0; number < many && number < scores.length; number++) {
            if (scores[number] != NOT_FOUND) {
                sum++;
            }
        }
        return sum;
    }

    private long addResults(long before) {
        long sum = before * 31 + hits.count;
        for (int place = 0; place < hits.count; place++) {
            sum = sum * 31 + hits.numberAt(place);
            sum = sum * 31 + hits.valueAt(place);
        }
        for (int kind = 0; kind < KIND_LIMIT; kind++) {
            sum = sum * 31 + hits.countKind(kind);
        }
        return sum;
    }

    // ---- what may be told

    private static boolean isTerm(int term) {
        return term >= 0 && term < TERM_LIMIT;
    }

    private static boolean isField(int field) {
        return field >= 0 && field < FIELD_LIMIT;
    }

    private static boolean isDate(int date) {
        return date >= 0 && date < DATE_LIMIT;
    }

    private static boolean isKind(int kind) {
        return kind >= 0 && kind < KIND_LIMIT;
    }

    private static boolean isSetOf(int many, int set) {
        return set >= 1 && set < 1 << many;
    }

    /** The terms of one field of one document. */
    private static final class TermRow {
        final int[] terms = new int[PLACE_LIMIT];
        final int[] differentTerms = new int[PLACE_LIMIT];
        final int[] counts = new int[PLACE_LIMIT];
        int length;
        int differentCount;

        boolean isFull() {
            return length >= terms.length;
        }

        void append(int term) {
            if (isFull()) {
                return;
            }
            terms[length] = term;
            length++;
            int index = indexOf(term);
            if (index >= 0 && index < counts.length) {
                counts[index]++;
            } else if (differentCount < differentTerms.length) {
                differentTerms[differentCount] = term;
                counts[differentCount] = 1;
                differentCount++;
            }
        }

        int termOn(int place) {
            return place < 0 || place >= length || place >= terms.length ? NONE : terms[place];
        }

        int differentTermOn(int index) {
            return index < 0 || index >= differentCount || index >= differentTerms.length
                    ? NONE : differentTerms[index];
        }

        int countOf(int term) {
            int index = indexOf(term);
            return index < 0 || index >= counts.length ? 0 : counts[index];
        }

        private int indexOf(int term) {
            for (int index = 0; index < differentCount && index < differentTerms.length; index++) {
                if (differentTerms[index] == term) {
                    return index;
                }
            }
            return NONE;
        }
    }

    /** A document, and where it lies: in the buffer, in a segment (its number), or nowhere any more. */
    private static final class Document {
        static final int BUFFER = -1;
        static final int NOWHERE = -2;

        final int date;
        final int kind;
        final TermRow[] rows = new TermRow[FIELD_LIMIT];
        int home = BUFFER;
        boolean isGone;

        Document(int date, int kind) {
            this.date = date;
            this.kind = kind;
            for (int field = 0; field < rows.length; field++) {
                rows[field] = new TermRow();
            }
        }

        TermRow rowOf(int field) {
            return field < 0 || field >= rows.length ? null : rows[field];
        }

        boolean liesInSegment() {
            return home >= 0;
        }

        boolean canBeFound() {
            return !isGone && liesInSegment();
        }

        int state() {
            if (isGone) {
                return 0;
            }
            return liesInSegment() ? 2 : 1;
        }

        boolean hasAnywhere(int term) {
            for (int field = 0; field < rows.length; field++) {
                TermRow row = rows[field];
                if (row != null && row.countOf(term) > 0) {
                    return true;
                }
            }
            return false;
        }
    }

    /** How many documents there are, how many have each term, and how long the fields are together. */
    private static final class Census {
        final int[][] spreads = new int[FIELD_LIMIT][TERM_LIMIT];
        final int[] lengths = new int[FIELD_LIMIT];
        int size;

        void reset() {
            size = 0;
            Arrays.fill(lengths, 0);
            for (int field = 0; field < spreads.length; field++) {
                Arrays.fill(spreads[field], 0);
            }
        }

        void count(Document document) {
            size++;
            for (int field = 0; field < spreads.length && field < lengths.length; field++) {
                TermRow row = document.rowOf(field);
                if (row != null) {
                    lengths[field] += row.length;
                    countTerms(row, spreads[field]);
                }
            }
        }

        private static void countTerms(TermRow row, int[] spreadByTerm) {
            for (int index = 0; index < row.differentCount; index++) {
                int term = row.differentTermOn(index);
                if (term >= 0 && term < spreadByTerm.length) {
                    spreadByTerm[term]++;
                }
            }
        }

        int spreadOf(int term, int field) {
            if (field < 0 || field >= spreads.length || term < 0 || term >= spreads[field].length) {
                return 0;
            }
            return spreads[field][term];
        }

        int lengthOf(int field) {
            return field < 0 || field >= lengths.length ? 0 : lengths[field];
        }

        /** RARE of a term that so many documents have. */
        int rarityOf(int spread) {
            if (spread < 0) {
                return 0;
            }
            int square = 10000 * (size + 1) / (spread + 1);
            int root = 0;
            for (int step = 1 << 14; step > 0; step >>= 1) {
                int next = root + step;
                if (next * next <= square) {
                    root = next;
                }
            }
            return root;
        }
    }

    /** The documents, the buffer and the segments. */
    private static final class Archive {
        final Document[] rows = new Document[DOCUMENT_LIMIT];
        int count;
        Document opened;
        final int[] tiers = new int[DOCUMENT_LIMIT];
        int segmentCount;
        final Census census = new Census();

        boolean isFull() {
            return count >= rows.length;
        }

        void takeIn() {
            if (!isFull()) {
                rows[count] = opened;
                count++;
                opened = null;
            }
        }

        Document documentAt(int number) {
            return number < 0 || number >= count || number >= rows.length ? null : rows[number];
        }

        int bufferSize() {
            return countAt(Document.BUFFER);
        }

        int countAt(int home) {
            int many = 0;
            for (int number = 0; number < count; number++) {
                Document document = documentAt(number);
                if (document != null && document.home == home) {
                    many++;
                }
            }
            return many;
        }

        int goneInSegments() {
            int many = 0;
            for (int number = 0; number < count; number++) {
                Document document = documentAt(number);
                if (document != null && document.isGone && document.liesInSegment()) {
                    many++;
                }
            }
            return many;
        }

        boolean hasSegment(int segment) {
            return segment >= 0 && segment < segmentCount;
        }

        int tierAt(int segment) {
            return !hasSegment(segment) || segment >= tiers.length ? NONE : tiers[segment];
        }

        int flushBuffer() {
            int many = bufferSize();
            if (many > 0) {
                appendSegment();
            }
            for (int round = 0; round < DOCUMENT_LIMIT && lastThreeAreAlike(); round++) {
                mergeFrom(segmentCount - 3, tierAt(segmentCount - 1) + 1);
            }
            recount();
            return many;
        }

        private void appendSegment() {
            if (segmentCount >= tiers.length) {
                return;
            }
            for (int number = 0; number < count; number++) {
                Document document = documentAt(number);
                if (document != null && document.home == Document.BUFFER) {
                    document.home = segmentCount;
                }
            }
            tiers[segmentCount] = 0;
            segmentCount++;
        }

        private boolean lastThreeAreAlike() {
            int last = segmentCount - 1;
            return last >= 2 && tierAt(last) == tierAt(last - 1) && tierAt(last) == tierAt(last - 2);
        }

        int mergeAll() {
            if (segmentCount == 0) {
                return 0;
            }
            int greatest = 0;
            for (int segment = 0; segment < segmentCount; segment++) {
                greatest = Math.max(greatest, tierAt(segment));
            }
            int dropped = mergeFrom(0, greatest);
            recount();
            return dropped;
        }

        /** Makes one segment, or none, of the first given one and all behind it; answers how many it drops. */
        private int mergeFrom(int first, int tier) {
            int dropped = 0;
            int kept = 0;
            for (int number = 0; number < count; number++) {
                Document document = documentAt(number);
                if (document == null || document.home < first) {
                    continue;
                }
                if (document.isGone) {
                    document.home = Document.NOWHERE;
                    dropped++;
                } else {
                    document.home = first;
                    kept++;
                }
            }
            segmentCount = first;
            if (kept > 0 && first >= 0 && first < tiers.length) {
                tiers[first] = tier;
                segmentCount++;
            }
            return dropped;
        }

        private void recount() {
            census.reset();
            for (int number = 0; number < count; number++) {
                Document document = documentAt(number);
                if (document != null && document.liesInSegment()) {
                    census.count(document);
                }
            }
        }

        /** Counts what would lie in segments behind a flush and a compaction. */
        void countSurvivors(Census future) {
            future.reset();
            for (int number = 0; number < count; number++) {
                Document document = documentAt(number);
                if (document != null && !document.isGone) {
                    future.count(document);
                }
            }
        }
    }

    /** What is set of terms and fields: who is mute, who has an alias, and the weights. */
    private static final class Lexicon {
        final boolean[] mutes = new boolean[TERM_LIMIT];
        final int[] aliases = new int[TERM_LIMIT];
        final int[] weights = new int[FIELD_LIMIT];

        Lexicon() {
            Arrays.fill(aliases, NONE);
            Arrays.fill(weights, 1);
        }

        boolean isMuted(int term) {
            return term >= 0 && term < mutes.length && mutes[term];
        }

        void putMute(int term, boolean isMute) {
            if (term >= 0 && term < mutes.length) {
                mutes[term] = isMute;
            }
        }

        int aliasOf(int term) {
            return term < 0 || term >= aliases.length ? NONE : aliases[term];
        }

        void putAlias(int term, int alias) {
            if (term >= 0 && term < aliases.length) {
                aliases[term] = alias;
            }
        }

        int weightOf(int field) {
            return field < 0 || field >= weights.length ? 0 : weights[field];
        }

        void putWeight(int field, int weight) {
            if (field >= 0 && field < weights.length) {
                weights[field] = weight;
            }
        }

        /** The term itself, unless it is mute. */
        int unmuted(int term) {
            return isMuted(term) ? NONE : term;
        }

        /** Whether one who looks for the one term finds the other one. */
        boolean finds(int sought, int term, boolean usesAliases) {
            if (sought < 0 || sought >= aliases.length || term < 0 || term >= mutes.length || mutes[term]) {
                return false;
            }
            return term == sought || usesAliases && term == aliases[sought];
        }
    }

    /** A node of a query; what its type does not name stays 0. */
    private static final class Node {
        static final int TERM = 0;
        static final int AND = 1;
        static final int OR = 2;
        static final int NOT = 3;
        static final int NEAR = 4;
        static final int DATED = 5;
        static final int KIND = 6;
        static final int SCALED = 7;
        static final int MOST = 8;

        final int type;
        int term;
        int fields;
        int one;
        int other;
        int distance;
        boolean isOrdered;
        int from;
        int to;
        int kinds;
        int percent;
        int many;
        int least;

        Node(int type) {
            this.type = type;
        }

        int partCount() {
            switch (type) {
                case AND:
                case OR:
                case NOT:
                case NEAR:
                    return 2;
                case SCALED:
                    return 1;
                case MOST:
                    return many;
                default:
                    return 0;
            }
        }

        int partAt(int index) {
            if (type == MOST) {
                return one + index;
            }
            return index == 0 ? one : other;
        }

        boolean isFor(int field) {
            return (fields >> field & 1) == 1;
        }

        boolean isApartAsAsked(int gap) {
            return gap != 0 && gap <= distance && gap >= (isOrdered ? 1 : -distance);
        }
    }

    /** The nodes, and which of them are in which. */
    private static final class Query {
        final Lexicon lexicon;
        final Node[] rows = new Node[NODE_LIMIT];
        int count;
        final boolean[] isInside = new boolean[NODE_LIMIT];
        final boolean[] isSoughtOn = new boolean[PLACE_LIMIT];

        Query(Lexicon lexicon) {
            this.lexicon = lexicon;
        }

        boolean isFull() {
            return count >= rows.length;
        }

        boolean hasNode(int number) {
            return nodeAt(number) != null;
        }

        Node nodeAt(int number) {
            return number < 0 || number >= count || number >= rows.length ? null : rows[number];
        }

        int append(Node node) {
            if (isFull()) {
                return NONE;
            }
            int number = count;
            rows[number] = node;
            count++;
            return number;
        }

        int dropAll() {
            int many = count;
            count = 0;
            return many;
        }

        /** A node's parts have smaller numbers, so that one way down reaches them all, each once. */
        private void markInside(int top, boolean leavesOutDenied) {
            for (int number = 0; number < isInside.length; number++) {
                isInside[number] = number == top;
            }
            for (int number = Math.min(top, isInside.length - 1); number >= 0; number--) {
                Node node = nodeAt(number);
                if (node != null && isInside[number]) {
                    markParts(node, leavesOutDenied);
                }
            }
        }

        private void markParts(Node node, boolean leavesOutDenied) {
            int many = leavesOutDenied && node.type == Node.NOT ? 1 : node.partCount();
            for (int index = 0; index < many; index++) {
                int part = node.partAt(index);
                if (part >= 0 && part < isInside.length) {
                    isInside[part] = true;
                }
            }
        }

        /** The term node with this number, if it is marked as inside. */
        private Node termNodeInside(int number) {
            Node node = nodeAt(number);
            boolean isOne = node != null && node.type == Node.TERM
                    && number >= 0 && number < isInside.length && isInside[number];
            return isOne ? node : null;
        }

        int entriesOf(int top, Census census) {
            markInside(top, false);
            int sum = 0;
            for (int number = 0; number < count; number++) {
                Node node = termNodeInside(number);
                if (node != null) {
                    sum += entriesOfTerm(node, census);
                }
            }
            return sum;
        }

        private int entriesOfTerm(Node node, Census census) {
            int own = lexicon.unmuted(node.term);
            int alias = lexicon.unmuted(lexicon.aliasOf(node.term));
            int sum = 0;
            for (int field = 0; field < FIELD_LIMIT; field++) {
                if (node.isFor(field)) {
                    sum += census.spreadOf(own, field) + census.spreadOf(alias, field);
                }
            }
            return sum;
        }

        int bestWindow(int top, TermRow row, int field, int width) {
            markInside(top, true);
            for (int place = 0; place < isSoughtOn.length; place++) {
                isSoughtOn[place] = place < row.length && isSought(row.termOn(place), field);
            }
            int best = NONE;
            int most = 0;
            for (int start = 0; start < row.length; start++) {
                int many = countSought(row, start, Math.min(start + width, row.length));
                if (many > most) {
                    most = many;
                    best = start;
                }
            }
            return best;
        }

        private boolean isSought(int term, int field) {
            for (int number = 0; number < count; number++) {
                Node node = termNodeInside(number);
                if (node != null && node.isFor(field) && lexicon.finds(node.term, term, true)) {
                    return true;
                }
            }
            return false;
        }

        private int countSought(TermRow row, int start, int end) {
            int many = 0;
            for (int place = start; place < end; place++) {
                boolean isSought = place >= 0 && place < isSoughtOn.length && isSoughtOn[place];
                if (isSought && !isRepeated(row, start, place)) {
                    many++;
                }
            }
            return many;
        }

        private boolean isRepeated(TermRow row, int start, int place) {
            for (int earlier = start; earlier < place; earlier++) {
                if (row.termOn(earlier) == row.termOn(place)) {
                    return true;
                }
            }
            return false;
        }
    }

    /** Tells with which score a node finds a document that lies in what the census counts. */
    private static final class Scorer {
        final Query query;
        final Lexicon lexicon;
        final Census census;
        final boolean usesAliases;
        final int[] values = new int[NODE_LIMIT];

        Scorer(Query query, Lexicon lexicon, Census census, boolean usesAliases) {
            this.query = query;
            this.lexicon = lexicon;
            this.census = census;
            this.usesAliases = usesAliases;
        }

        /** Scores all nodes from 0 on: a node that is in many others would be scored many times otherwise. */
        int scoreOf(Document document, int node) {
            for (int number = 0; number <= node && number < values.length; number++) {
                values[number] = Math.min(valueOf(query.nodeAt(number), document), SCORE_LIMIT);
            }
            return valueAt(node);
        }

        int valueAt(int node) {
            return node < 0 || node >= values.length ? NOT_FOUND : values[node];
        }

        private int valueOf(Node node, Document document) {
            if (node == null) {
                return NOT_FOUND;
            }
            switch (node.type) {
                case Node.TERM:
                    return termValue(node, document);
                case Node.AND:
                    return sumOfAtLeast(node, 2);
                case Node.OR:
                    return sumOfAtLeast(node, 1);
                case Node.MOST:
                    return sumOfAtLeast(node, node.least);
                case Node.NOT:
                    return valueAt(node.other) == NOT_FOUND ? valueAt(node.one) : NOT_FOUND;
                case Node.NEAR:
                    return nearValue(node, document);
                case Node.DATED:
                    return document.date >= node.from && document.date <= node.to ? 0 : NOT_FOUND;
                case Node.KIND:
                    return (node.kinds >> document.kind & 1) == 1 ? 0 : NOT_FOUND;
                case Node.SCALED:
                    return scaledValue(valueAt(node.one), node.percent);
                default:
                    return NOT_FOUND;
            }
        }

        private int termValue(Node node, Document document) {
            int own = lexicon.unmuted(node.term);
            int alias = usesAliases ? lexicon.unmuted(lexicon.aliasOf(node.term)) : NONE;
            boolean isFound = false;
            int sum = 0;
            for (int field = 0; field < FIELD_LIMIT; field++) {
                TermRow row = document.rowOf(field);
                if (row == null || !node.isFor(field)) {
                    continue;
                }
                int ownCount = row.countOf(own);
                int aliasCount = row.countOf(alias);
                isFound = isFound || ownCount > 0 || aliasCount > 0;
                sum += taste(own, ownCount, row.length, field) + taste(alias, aliasCount, row.length, field);
            }
            return isFound ? sum : NOT_FOUND;
        }

        /** The TASTE of a term that a field of such a length has so many times. */
        private int taste(int term, int many, int length, int field) {
            int allLengths = census.lengthOf(field);
            if (many <= 0 || allLengths <= 0) {
                return 0;
            }
            int damping = 10 * many + 3 + 9 * length * census.size / allLengths;
            int rarity = census.rarityOf(census.spreadOf(term, field));
            return damping <= 0 ? 0 : rarity * many * 20 / damping * lexicon.weightOf(field);
        }

        private int sumOfAtLeast(Node node, int least) {
            int many = 0;
            int sum = 0;
            for (int index = 0; index < node.partCount(); index++) {
                int value = valueAt(node.partAt(index));
                if (value != NOT_FOUND) {
                    many++;
                    sum += value;
                }
            }
            return many >= least ? sum : NOT_FOUND;
        }

        private int nearValue(Node node, Document document) {
            Node first = query.nodeAt(node.one);
            Node second = query.nodeAt(node.other);
            int sum = sumOfAtLeast(node, 2);
            if (first == null || second == null || sum == NOT_FOUND) {
                return NOT_FOUND;
            }
            int many = 0;
            for (int field = 0; field < FIELD_LIMIT; field++) {
                TermRow row = document.rowOf(field);
                boolean isForBoth = first.isFor(field) && second.isFor(field);
                if (row != null && isForBoth && isNearIn(row, node, first.term, second.term)) {
                    many++;
                }
            }
            return many == 0 ? NOT_FOUND : sum + 100 * many;
        }

        private boolean isNearIn(TermRow row, Node near, int first, int second) {
            for (int place = 0; place < row.length; place++) {
                if (!lexicon.finds(first, row.termOn(place), usesAliases)) {
                    continue;
                }
                for (int other = 0; other < row.length; other++) {
                    if (near.isApartAsAsked(other - place)
                            && lexicon.finds(second, row.termOn(other), usesAliases)) {
                        return true;
                    }
                }
            }
            return false;
        }

        private static int scaledValue(int value, int percent) {
            return value == NOT_FOUND ? NOT_FOUND : value * percent / 100;
        }
    }

    /** What the last search found, the best first. */
    private static final class Results {
        final Document[] rows = new Document[DOCUMENT_LIMIT];
        final int[] numbers = new int[DOCUMENT_LIMIT];
        final int[] values = new int[DOCUMENT_LIMIT];
        int count;

        void dropAll() {
            count = 0;
        }

        /** Numbers come in rising order, so that a new one stays behind its equals. */
        void insert(Document document, int number, int value) {
            if (document == null || count >= rows.length) {
                return;
            }
            int place = count;
            while (place > 0 && isBetter(document, value, place - 1)) {
                rows[place] = rows[place - 1];
                numbers[place] = numbers[place - 1];
                values[place] = values[place - 1];
                place--;
            }
            rows[place] = document;
            numbers[place] = number;
            values[place] = value;
            count++;
        }

        private boolean isBetter(Document document, int value, int place) {
            Document placed = documentAt(place);
            if (placed == null || value < valueAt(place)) {
                return false;
            }
            return value > valueAt(place) || document.date > placed.date;
        }

        boolean hasPlace(int place) {
            return place >= 0 && place < count;
        }

        private Document documentAt(int place) {
            return !hasPlace(place) || place >= rows.length ? null : rows[place];
        }

        int numberAt(int place) {
            return !hasPlace(place) || place >= numbers.length ? NONE : numbers[place];
        }

        int valueAt(int place) {
            return !hasPlace(place) || place >= values.length ? NOT_FOUND : values[place];
        }

        int countKind(int kind) {
            int many = 0;
            for (int place = 0; place < count; place++) {
                Document document = documentAt(place);
                if (document != null && document.kind == kind) {
                    many++;
                }
            }
            return many;
        }

        int countDates(int from, int to) {
            int many = 0;
            for (int place = 0; place < count; place++) {
                Document document = documentAt(place);
                if (document != null && document.date >= from && document.date <= to) {
                    many++;
                }
            }
            return many;
        }
    }

    /** Which documents are alike, and which terms go together. */
    private static final class Kin {
        final Archive archive;
        final Lexicon lexicon;
        final int[][] worths = new int[FIELD_LIMIT][TERM_LIMIT];
        final int[] shared = new int[TERM_LIMIT];
        final int[] everywhere = new int[TERM_LIMIT];
        final int[] lastSeen = new int[TERM_LIMIT];

        Kin(Archive archive, Lexicon lexicon) {
            this.archive = archive;
            this.lexicon = lexicon;
        }

        int mostLike(int number) {
            Document document = archive.documentAt(number);
            if (document == null) {
                return NONE;
            }
            fillWorths(document);
            int best = NONE;
            int most = 0;
            for (int other = 0; other < archive.count; other++) {
                Document compared = archive.documentAt(other);
                if (compared == null || other == number || !compared.canBeFound()) {
                    continue;
                }
                int sum = likeness(compared);
                if (sum > most) {
                    most = sum;
                    best = other;
                }
            }
            return best;
        }

        /** Rows of what each term is worth in each field spare comparing two documents term by term. */
        private void fillWorths(Document document) {
            for (int field = 0; field < worths.length; field++) {
                Arrays.fill(worths[field], 0);
                TermRow row = document.rowOf(field);
                if (row != null) {
                    fillWorthsOf(row, field, worths[field]);
                }
            }
        }

        private void fillWorthsOf(TermRow row, int field, int[] worthByTerm) {
            for (int index = 0; index < row.differentCount; index++) {
                int term = row.differentTermOn(index);
                if (term >= 0 && term < worthByTerm.length && !lexicon.isMuted(term)) {
                    worthByTerm[term] = archive.census.rarityOf(archive.census.spreadOf(term, field));
                }
            }
        }

        private int likeness(Document compared) {
            int sum = 0;
            for (int field = 0; field < worths.length; field++) {
                TermRow row = compared.rowOf(field);
                if (row == null) {
                    continue;
                }
                for (int index = 0; index < row.differentCount; index++) {
                    sum += worthOf(row.differentTermOn(index), field);
                }
            }
            return sum;
        }

        private int worthOf(int term, int field) {
            if (field < 0 || field >= worths.length || term < 0 || term >= worths[field].length) {
                return 0;
            }
            return worths[field][term];
        }

        int closestTerm(int term) {
            Arrays.fill(shared, 0);
            Arrays.fill(everywhere, 0);
            Arrays.fill(lastSeen, NONE);
            for (int number = 0; number < archive.count; number++) {
                Document document = archive.documentAt(number);
                if (document != null && document.canBeFound()) {
                    countTerms(document, number, document.hasAnywhere(term));
                }
            }
            int best = NONE;
            for (int other = 0; other < TERM_LIMIT; other++) {
                if (other != term && !lexicon.isMuted(other) && isCloser(other, best)) {
                    best = other;
                }
            }
            return best;
        }

        private void countTerms(Document document, int number, boolean hasTerm) {
            for (int field = 0; field < FIELD_LIMIT; field++) {
                TermRow row = document.rowOf(field);
                if (row == null) {
                    continue;
                }
                for (int index = 0; index < row.differentCount; index++) {
                    countOnce(row.differentTermOn(index), number, hasTerm);
                }
            }
        }

        /** A term that several fields of a document have counts once. */
        private void countOnce(int term, int number, boolean hasTerm) {
            if (!isTerm(term) || lastSeen[term] == number) {
                return;
            }
            lastSeen[term] = number;
            everywhere[term]++;
            if (hasTerm) {
                shared[term]++;
            }
        }

        private boolean isCloser(int term, int best) {
            if (!isTerm(term) || shared[term] == 0) {
                return false;
            }
            if (!isTerm(best) || shared[term] > shared[best]) {
                return true;
            }
            return shared[term] == shared[best] && everywhere[term] < everywhere[best];
        }
    }
}
