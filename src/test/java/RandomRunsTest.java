import java.util.Random;

/** Runs of 512 calls, right and wrong ones, of which each answer is compared with that of the Reference. */
public final class RandomRunsTest {
    private static final int CALLS = 512;

    private final Check check = new Check("RandomRunsTest");
    private final Random random;
    private final int termCount;
    private final int wordCount;
    private int calls;
    private QuarryIndex engine = new QuarryIndex();
    private Reference reference = new Reference();

    private RandomRunsTest(long seed) {
        random = new Random(seed);
        termCount = 3 + random.nextInt(12);
        wordCount = 2 + random.nextInt(12);
    }

    public static void main(String[] args) {
        int runs = args.length > 0 ? Integer.parseInt(args[0]) : 1000;
        Check check = new Check("RandomRunsTest");
        for (int seed = 1; seed <= runs; seed++) {
            RandomRunsTest run = new RandomRunsTest(seed);
            String wrong = run.firstWrong();
            check.same("run " + seed, wrong, null);
        }
        check.end();
    }

    private String firstWrong() {
        for (int step = 0; calls < CALLS && step < 10 * CALLS; step++) {
            String wrong = random.nextInt(3) == 0 ? askAny() : tellAny();
            if (wrong == null && random.nextInt(40) == 0) {
                wrong = compare("digest()", () -> engine.digest(), () -> reference.digest());
            }
            if (wrong != null) {
                return "call " + calls + ": " + wrong;
            }
        }
        return null;
    }

    /** Nothing is compared behind the last call for which an object is used. */
    private String compare(String what, Check.Call got, Check.Call due) {
        if (calls >= CALLS) {
            return null;
        }
        calls++;
        Object gotAnswer = plain(Check.outcome(got));
        Object dueAnswer = plain(Check.outcome(due));
        return gotAnswer.equals(dueAnswer) ? null : what + " answered " + gotAnswer + ", due is " + dueAnswer;
    }

    private static Object plain(Object answer) {
        return answer instanceof Boolean ? ((Boolean) answer ? 1 : 0) : answer;
    }

    /** Mostly one of the numbers below the limit, now and then one just beside them or far off. */
    private int about(int limit) {
        int dice = random.nextInt(60);
        if (dice == 0) {
            return -1;
        }
        if (dice == 1) {
            return limit;
        }
        if (dice == 2) {
            return random.nextInt();
        }
        return limit <= 0 ? 0 : random.nextInt(limit);
    }

    private int someTerm() {
        return random.nextInt(60) == 0 ? about(200) : random.nextInt(termCount);
    }

    private int someDate() {
        return random.nextInt(3) == 0 ? about(10000) : random.nextInt(5);
    }

    private int someDocument() {
        return about(reference.documents());
    }

    private int someNode() {
        return about(reference.nodes());
    }

    private String tellAny() {
        int dice = random.nextInt(100);
        if (dice < 30) {
            return writeDocument();
        }
        if (dice < 60) {
            return addNode();
        }
        return tellOther();
    }

    private String writeDocument() {
        int date = someDate();
        int kind = about(8);
        String wrong = compare("open", () -> engine.open(date, kind), () -> reference.open(date, kind));
        int many = random.nextInt(random.nextInt(8) == 0 ? 40 : wordCount);
        for (int index = 0; index < many && wrong == null; index++) {
            int field = random.nextInt(4) == 0 ? about(3) : random.nextInt(2);
            int term = someTerm();
            wrong = compare("write", () -> engine.write(field, term), () -> reference.write(field, term));
        }
        if (wrong == null && random.nextInt(10) > 0) {
            wrong = compare("close", () -> engine.close(), () -> reference.close());
        }
        return wrong;
    }

    private String addNode() {
        int one = someNode();
        int other = someNode();
        int small = about(11);
        boolean flag = random.nextBoolean();
        int term = someTerm();
        int set = about(8);
        switch (random.nextInt(12)) {
            case 0:
                return compare("and", () -> engine.and(one, other), () -> reference.and(one, other));
            case 1:
                return compare("or", () -> engine.or(one, other), () -> reference.or(one, other));
            case 2:
                return compare("not", () -> engine.not(one, other), () -> reference.not(one, other));
            case 3:
            case 4:
                return compare("near", () -> engine.near(one, other, small, flag),
                        () -> reference.near(one, other, small, flag));
            case 5: {
                int from = someDate();
                int to = someDate();
                return compare("dated", () -> engine.dated(from, to), () -> reference.dated(from, to));
            }
            case 6: {
                int kinds = about(256);
                return compare("kind", () -> engine.kind(kinds), () -> reference.kind(kinds));
            }
            case 7: {
                int parts = random.nextInt(3) == 0 ? 500 : about(501);
                return compare("scaled", () -> engine.scaled(one, parts), () -> reference.scaled(one, parts));
            }
            case 8: {
                int many = about(6);
                int least = about(5);
                return compare("most", () -> engine.most(one, many, least), () -> reference.most(one, many, least));
            }
            default:
                return compare("term", () -> engine.term(term, set), () -> reference.term(term, set));
        }
    }

    private String tellOther() {
        int node = someNode();
        int document = someDocument();
        int term = someTerm();
        int other = random.nextInt(4) == 0 ? -1 : someTerm();
        int field = about(3);
        int weight = about(10);
        boolean flag = random.nextInt(3) == 0;
        switch (random.nextInt(22)) {
            case 0:
            case 1:
            case 2:
                return compare("remove", () -> engine.remove(document), () -> reference.remove(document));
            case 3:
            case 4:
                return compare("setMute", () -> engine.setMute(term, flag), () -> reference.setMute(term, flag));
            case 5:
            case 6:
                return compare("setAlias", () -> engine.setAlias(term, other), () -> reference.setAlias(term, other));
            case 7:
                return compare("setWeight", () -> engine.setWeight(field, weight),
                        () -> reference.setWeight(field, weight));
            case 8:
                return random.nextInt(3) > 0 ? null
                        : compare("compact", () -> engine.compact(), () -> reference.compact());
            case 9:
                return random.nextInt(4) > 0 ? null
                        : compare("clear", () -> engine.clear(), () -> reference.clear());
            case 10:
            case 11:
            case 12:
                return compare("search", () -> engine.search(node), () -> reference.search(node));
            case 13:
                return compare("close", () -> engine.close(), () -> reference.close());
            default:
                return compare("flush", () -> engine.flush(), () -> reference.flush());
        }
    }

    private String askAny() {
        int document = someDocument();
        int node = someNode();
        int field = about(3);
        int term = someTerm();
        int place = about(13);
        int date = someDate();
        int width = random.nextInt(3) == 0 ? about(10001) : about(6);
        int segment = about(reference.segments());
        int result = about(reference.results());
        switch (random.nextInt(24)) {
            case 0:
                return compare("documents", () -> engine.documents(), () -> reference.documents());
            case 1:
                return compare("stateOf", () -> engine.stateOf(document), () -> reference.stateOf(document));
            case 2:
                return compare("termAt", () -> engine.termAt(document, field, place),
                        () -> reference.termAt(document, field, place));
            case 3:
                return compare("segments", () -> engine.segments(), () -> reference.segments());
            case 4:
                return compare("tierOf", () -> engine.tierOf(segment), () -> reference.tierOf(segment));
            case 5:
                return compare("sizeOf", () -> engine.sizeOf(segment), () -> reference.sizeOf(segment));
            case 6:
                return compare("spread", () -> engine.spread(term, field), () -> reference.spread(term, field));
            case 7:
                return compare("rare", () -> engine.rare(term, field), () -> reference.rare(term, field));
            case 8:
                return compare("nodes", () -> engine.nodes(), () -> reference.nodes());
            case 9:
                return compare("score", () -> engine.score(node, document), () -> reference.score(node, document));
            case 10:
                return compare("found", () -> engine.found(node), () -> reference.found(node));
            case 11:
                return compare("results", () -> engine.results(), () -> reference.results());
            case 12:
                return compare("resultAt", () -> engine.resultAt(result), () -> reference.resultAt(result));
            case 13:
                return compare("scoreAt", () -> engine.scoreAt(result), () -> reference.scoreAt(result));
            case 14:
                return compare("ofKind", () -> engine.ofKind(place), () -> reference.ofKind(place));
            case 15:
                return compare("ofDates", () -> engine.ofDates(date, width), () -> reference.ofDates(date, width));
            case 16:
            case 17:
                return compare("window", () -> engine.window(document, node, field, place),
                        () -> reference.window(document, node, field, place));
            case 18:
                return compare("like", () -> engine.like(document), () -> reference.like(document));
            case 19:
                return compare("mate", () -> engine.mate(term), () -> reference.mate(term));
            case 20:
                return compare("cost", () -> engine.cost(node), () -> reference.cost(node));
            case 21:
                return compare("byAlias", () -> engine.byAlias(node), () -> reference.byAlias(node));
            case 22:
                return compare("wouldScore", () -> engine.wouldScore(node, document),
                        () -> reference.wouldScore(node, document));
            default:
                return compare("waste", () -> engine.waste(), () -> reference.waste());
        }
    }
}
