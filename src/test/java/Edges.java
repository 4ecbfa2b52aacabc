import java.io.IOException;
import java.nio.file.Files;
import java.nio.file.Path;
import java.util.ArrayList;
import java.util.Arrays;
import java.util.List;
import java.util.function.ToLongFunction;
import java.util.regex.Matcher;
import java.util.regex.Pattern;

/**
 * Tests of sentences that name a boundary case: each is told with its promise's number (0: the terms)
 * and the document's own words, which are looked for in the document.
 */
final class Edges {
    /** Words by which a sentence of the document names a boundary case: each must lie in tested words. */
    private static final Pattern MARKS = Pattern.compile("Refused|NONE|-[23]\\b|-1 - p|-100000 - p|NoSuchElementException:|\\d \\.\\. [(\\d]"
            + "|at most|\\bempty|\\bnone\\b|nothing|Nothing|Can't|can't|too early|\\bcut\\b|\\brest\\b|at first|\\bfirst\\b|\\bleast\\b|whole"
            + "|as they gr|without|above|below|or more|or less|\\bput to|\\bno \\w+ more|else|missing|lowest|forget|None|No |came since|\\bfew");

    /** What is asked of one edge. */
    interface Asking {
        void ask(Check c);
    }

    private record Edge(int promise, String words) { }

    private final Check check = new Check();
    private final List<Edge> edges = new ArrayList<>();

    void edge(int promise, String words, Asking asking) {
        edges.add(new Edge(promise, words));
        check.about(promise + ": \"" + words + "\": ");
        int before = check.asked();
        try {
            asking.ask(check);
        } catch (RuntimeException e) {
            check.due("throws " + e, true, false);
        }
        check.due("something is asked", check.asked() > before, true);
    }

    /** A call that is refused, or tells that there is none: all is, and will be, as without it. */
    void refused(int promise, String words, long want, List<ToLongFunction<ElderBallast>> calls) {
        edge(promise, words, c -> {
            for (int i = 0; i < calls.size(); i++) {
                ElderBallast x = busy();
                c.due("call " + i, calls.get(i).applyAsLong(x), want);
                c.due("call " + i + " changes nothing", future(x), future(busy()));
            }
        });
    }

    /** A text that is read in vain: it is emptied, all else is, and will be, as without it. */
    static void inVain(Check c, String text, ToLongFunction<ElderBallast> reader, long want) {
        ElderBallast x = Check.say(busy(), text);
        c.due(text, reader.applyAsLong(x), want);
        c.due(text + ": signs left", x.count(13), 0);
        ElderBallast without = busy();
        without.end(0);
        c.due(text + ": all else as it was", future(x), future(without));
    }

    /** Four brothers, and something of all that an object can hold. */
    static ElderBallast busy() {
        ElderBallast x = Check.with("93+5;41-2;20+3;05+0");
        Check.say(x, "024689").thoughts();
        Check.say(x, "+7-3+9").winds();
        Check.say(x, "g+t+(n>3)+l/2").rule();
        x.keep(1);
        x.sails(8);
        x.hours(4);
        x.tells(1, 2);
        x.saw(1, 2, 7);
        x.heard(0, 3);
        x.moment();
        Check.say(x, "g+");
        return x;
    }

    /** What an object answers from now on, by calls that look into all that it holds. */
    static String future(ElderBallast x) {
        StringBuilder s = new StringBuilder(Check.seenOf(x)).append('|').append(Check.rowOf(x)).append('|');
        for (int t = 0; t < 6; t++) {
            s.append(x.price(t)).append(' ');
        }
        s.append(x.moment()).append(' ').append(Check.rowOf(x)).append('|');
        for (int b = 0; b < x.count(0); b++) {
            s.append(x.minds(b)).append(' ');
        }
        s.append(x.fits()).append(' ').append(x.later(50)).append(' ').append(Check.rowOf(x)).append('|');
        x.sign('g' << 24);
        x.end(x.count(13) - 3);
        s.append(x.law()).append(' ').append(Check.rowOf(x)).append('|');
        for (int i = 0; i < 13 && x.undo() >= 0; i++) {
            s.append(Check.seenOf(x)).append('|');
        }
        for (int i = 0; i < 2; i++) {
            s.append(x.again(i)).append(' ').append(Check.seenOf(x)).append('|');
        }
        for (int i = 0; i < 5; i++) {
            s.append(x.count(6)).append(' ').append(x.hours(1)).append(' ');
        }
        return s.append(x.denies()).append(' ').append(x.forget()).toString();
    }

    /** Each edge's words must stand in the document, and each mark of a boundary in some edge's words. */
    void holdAgainst(Path document) throws IOException {
        if (!Files.isReadable(document)) {
            System.out.println("no document at " + document + ": the words are not looked for");
            return;
        }
        String[] parts = partsOf(Files.readString(document));
        boolean[][] tested = new boolean[parts.length][];
        for (int i = 0; i < parts.length; i++) {
            tested[i] = new boolean[parts[i].length()];
        }
        check.about("");
        for (Edge e : edges) {
            int at = parts[e.promise].indexOf(e.words);
            check.due(e.promise + ": the document has the words \"" + e.words + "\"", at >= 0, true);
            for (; at >= 0; at = parts[e.promise].indexOf(e.words, at + 1)) {
                Arrays.fill(tested[e.promise], at, at + e.words.length(), true);
            }
        }
        for (int i = 0; i < parts.length; i++) {
            Matcher m = MARKS.matcher(parts[i]);
            while (m.find()) {
                String around = parts[i].substring(Math.max(0, m.start() - 30), Math.min(parts[i].length(), m.end() + 30));
                check.due(i + ": there is an edge for .." + around + "..", tested[i][m.start()], true);
            }
        }
    }

    /** The terms, then each promise behind its face, in one line each. */
    private static String[] partsOf(String document) {
        String[] parts = new String[53];
        Arrays.fill(parts, "");
        parts[0] = between(document, "## Terms", "Ahead of the calls");
        for (int i = 1; i <= 52; i++) {
            String part = between(document, "## Promise " + i + ":", "\n## ");
            parts[i] = part.substring(part.indexOf("`: ") + 3);
        }
        for (int i = 0; i < parts.length; i++) {
            parts[i] = parts[i].replaceAll("\\s+", " ").trim();
        }
        return parts;
    }

    private static String between(String text, String from, String to) {
        int start = text.indexOf(from) + from.length();
        return text.substring(start, text.indexOf(to, start));
    }

    void close() {
        System.out.println(edges.size() + " edges");
        check.close();
    }
}
