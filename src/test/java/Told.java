import java.io.IOException;
import java.nio.file.Files;
import java.nio.file.Path;
import java.util.ArrayList;
import java.util.List;
import java.util.TreeSet;
import java.util.regex.Matcher;
import java.util.regex.Pattern;

/** Which sentences of the document have a test of their own, and which have none. */
final class Told {
    private static final Path DOCUMENT = Path.of("..", "shared", "DOC.md");
    private static final Pattern HEADING = Pattern.compile("## Promise (\\d+): ");
    private static final Pattern HEAD = Pattern.compile("(``` ?)?(text )?(== \\d\\.|[A-Z]+:|\\W*)");
    private static final Pattern REFUSAL = Pattern.compile("Throws `(\\w+)` if (.*?)(?= Throws `| *$)");

    private final List<Integer> promises = new ArrayList<>();
    private final List<String> sentences = new ArrayList<>();
    private final TreeSet<String> refusals = new TreeSet<>();

    void addSentence(int promise, String sentence) {
        promises.add(promise);
        sentences.add(sentence);
    }

    void addRefusal(int promise, String exception, String clause) {
        refusals.add(promise + " " + exception + ": " + clause);
    }

    /** What the tests and the document do not have in common; nothing if the document is not at hand. */
    List<String> differences() {
        if (!Files.exists(DOCUMENT)) {
            System.out.println("EdgesTest: there is no " + DOCUMENT + " to compare the sentences with");
            return List.of();
        }
        try {
            return differencesFrom(Files.readString(DOCUMENT).replaceAll("\\s+", " "));
        } catch (IOException thrown) {
            return List.of("cannot read " + DOCUMENT);
        }
    }

    private List<String> differencesFrom(String text) {
        List<String> differences = new ArrayList<>();
        int end = text.indexOf("## Not promised");
        boolean[] isTold = new boolean[text.length()];
        List<int[]> parts = new ArrayList<>();
        Matcher heading = HEADING.matcher(text);
        while (heading.find()) {
            parts.add(new int[] {Integer.parseInt(heading.group(1)), heading.start(), end});
        }
        for (int index = 0; index + 1 < parts.size(); index++) {
            parts.get(index)[2] = parts.get(index + 1)[1];
        }
        int terms = text.indexOf("All numbers are whole");
        int ahead = text.indexOf("Ahead of the calls `open`");
        for (int index = 0; index < sentences.size(); index++) {
            boolean isThere = mark(isTold, text, 0, ahead, sentences.get(index));
            for (int[] part : parts) {
                if (part[0] == promises.get(index)) {
                    isThere |= mark(isTold, text, part[1], part[2], sentences.get(index));
                }
            }
            if (!isThere) {
                differences.add("Promise " + promises.get(index) + ", a test of \"" + sentences.get(index)
                        + "\", which the document does not say there");
            }
        }
        addUntold(differences, isTold, text, terms, ahead, "Terms");
        TreeSet<String> due = new TreeSet<>();
        for (int[] part : parts) {
            String promise = text.substring(part[1], part[2]);
            int returns = promise.indexOf("Returns ");
            int stop = promise.indexOf(" Throws `") < 0 ? promise.length() : promise.indexOf(" Throws `");
            if (returns >= 0 && returns < stop) {
                addUntold(differences, isTold, text, part[1] + returns, part[1] + stop, "Promise " + part[0]);
            }
            Matcher refusal = REFUSAL.matcher(promise.substring(stop));
            while (refusal.find()) {
                for (String clause : refusal.group(2).split(", or ")) {
                    due.add(part[0] + " " + refusal.group(1) + ": " + clause);
                }
            }
        }
        compareRefusals(differences, due);
        return differences;
    }

    private void compareRefusals(List<String> differences, TreeSet<String> due) {
        for (String refusal : due) {
            if (!refusals.contains(refusal)) {
                differences.add("no test of the refusal " + refusal);
            }
        }
        for (String refusal : refusals) {
            if (!due.contains(refusal)) {
                differences.add("a test of the refusal " + refusal + ", which the document does not say");
            }
        }
    }

    private static boolean mark(boolean[] isTold, String text, int from, int to, String sentence) {
        boolean isThere = false;
        for (int at = text.indexOf(sentence, from); at >= 0 && at < to; at = text.indexOf(sentence, at + 1)) {
            isThere = true;
            for (int sign = at; sign < at + sentence.length(); sign++) {
                isTold[sign] = true;
            }
        }
        return isThere;
    }

    /** A piece of the text, up to a sign that ends a sentence or a part of one, is to be told at least in part. */
    private static void addUntold(List<String> differences, boolean[] isTold, String text, int from, int to,
            String place) {
        int start = from;
        for (int sign = from; sign < to; sign++) {
            boolean isEnd = ".;:".indexOf(text.charAt(sign)) >= 0 || sign == to - 1;
            if (!isEnd) {
                continue;
            }
            String piece = text.substring(start, sign + 1).trim();
            boolean isAny = HEAD.matcher(piece).matches();
            for (int index = start; index <= sign; index++) {
                isAny |= isTold[index];
            }
            if (!isAny) {
                differences.add(place + ": no test of \"" + piece + "\"");
            }
            start = sign + 1;
        }
    }
}
