import java.io.IOException;
import java.io.UncheckedIOException;
import java.nio.file.Files;
import java.nio.file.Path;
import java.util.ArrayList;
import java.util.LinkedHashSet;
import java.util.List;
import java.util.Map;
import java.util.Set;
import java.util.TreeMap;

/**
 * Tests of single sentences of the document. Each test quotes its sentence under its promise. A quote
 * that the document does not have is a fault, and so is a sentence that is not quoted at the end.
 */
final class Sentences {
    static final int WHAT_IT_IS = -1;
    static final int TERMS = 0;

    interface Test {
        void of(BoomerangCourt court);
    }

    interface NumberCall {
        Object with(BoomerangCourt court, int number);
    }

    interface CellCall {
        Object with(BoomerangCourt court, int x, int y);
    }

    private static final int[] FAR_OFF = {64, -64, 256, 1 << 16, Integer.MAX_VALUE, Integer.MIN_VALUE};

    private static final Map<Integer, Set<String>> DOCUMENT = new TreeMap<>();
    private static final Map<Integer, Set<String>> QUOTED = new TreeMap<>();

    private Sentences() {
    }

    /** Tests a sentence of a promise on a new court. */
    static void test(int promise, String quote, Test test) {
        quote(promise, quote);
        String section = promise == WHAT_IT_IS ? "What it is" : promise == TERMS ? "Terms" : "Promise " + promise;
        Check.about = section + " \"" + quote + "\" ";
        int before = Check.asked();
        Check.due("ends", "well", () -> endOf(test));
        int after = Check.asked();
        Check.due("asks something", true, () -> after > before);
        Check.about = "";
    }

    /** A call that throws where the test does not expect it ends the test, but not the others. */
    private static String endOf(Test test) {
        try {
            test.of(new BoomerangCourt());
            return "well";
        } catch (RuntimeException e) {
            return e + " by " + e.getStackTrace()[1];
        }
    }

    /** Sentences that name no boundary and that the tests of the sentences beside them cover. */
    static void plain(int promise, String... quotes) {
        for (String quote : quotes) {
            quote(promise, quote);
        }
    }

    private static void quote(int promise, String quote) {
        Check.due("the document has " + promise + " " + quote, true, () -> sentencesOf(promise).contains(quote));
        Check.due("quoted once " + promise + " " + quote, true,
                () -> QUOTED.computeIfAbsent(promise, key -> new LinkedHashSet<>()).add(quote));
    }

    /** Each sentence of the document has been quoted. */
    static void complete() {
        Check.due("promises in the document", 57, () -> (int) DOCUMENT.keySet().stream().filter(key -> key > 0).count());
        for (int promise : DOCUMENT.keySet()) {
            for (String sentence : DOCUMENT.get(promise)) {
                Check.due("a test of " + promise + " \"" + sentence + "\"", true,
                        () -> QUOTED.getOrDefault(promise, Set.of()).contains(sentence));
            }
        }
    }

    private static Set<String> sentencesOf(int promise) {
        if (DOCUMENT.isEmpty()) {
            read();
        }
        return DOCUMENT.getOrDefault(promise, Set.of());
    }

    private static void read() {
        Set<String> sentences = null;
        boolean isForm = false;
        for (String line : linesOfTheDocument()) {
            if (line.startsWith("## ")) {
                sentences = sectionOf(line);
            } else if (line.startsWith("```")) {
                isForm = !isForm;
            } else if (sentences != null && !line.isBlank() && !line.startsWith("Ahead of the calls ")) {
                sentences.addAll(isForm ? List.of(line.trim()) : split(line));
            }
        }
    }

    private static List<String> linesOfTheDocument() {
        try {
            return Files.readAllLines(Path.of("../shared/DOC.md"));
        } catch (IOException e) {
            throw new UncheckedIOException(e);
        }
    }

    /** The sentences of a section that promises something, or null. */
    private static Set<String> sectionOf(String heading) {
        int number = heading.startsWith("## Promise ")
                ? Integer.parseInt(heading.replaceAll("## Promise (\\d+):.*", "$1"))
                : heading.equals("## Terms") ? TERMS : heading.equals("## What it is") ? WHAT_IT_IS : -2;
        return number == -2 ? null : DOCUMENT.computeIfAbsent(number, key -> new LinkedHashSet<>());
    }

    /** The sentences of a paragraph, without its signature and without its heading of one or two words. */
    private static List<String> split(String paragraph) {
        String text = paragraph.startsWith("`") ? paragraph.replaceFirst("`[^`]*`: ", "") : paragraph;
        List<String> sentences = new ArrayList<>(List.of(text.split("(?<=\\.)\\s+(?=[A-Z0-9])")));
        sentences.removeIf(sentence -> sentence.matches("\\S+( \\S+)?"));
        return sentences;
    }

    // ---- what many tests ask

    /** The number of a cell, where column and row can be beyond the edges. */
    static int at(int x, int y) {
        return 8 * Math.floorMod(y, 8) + Math.floorMod(x, 8);
    }

    static long bit(int x, int y) {
        return 1L << at(x, y);
    }

    /** Columns that there are not, among them some whose cell would have a number from 0 to 63. */
    static void noColumn(BoomerangCourt c, CellCall call) {
        Check.badIndex("column -1", () -> call.with(c, -1, 3));
        Check.badIndex("column -1 of row 0", () -> call.with(c, -1, 0));
        Check.badIndex("column 8", () -> call.with(c, 8, 3));
        Check.badIndex("column 8 of row 7", () -> call.with(c, 8, 7));
        for (int far : FAR_OFF) {
            Check.badIndex("column " + far, () -> call.with(c, far, 0));
        }
    }

    static void noRow(BoomerangCourt c, CellCall call) {
        Check.badIndex("row -1", () -> call.with(c, 3, -1));
        Check.badIndex("row -1, column 7", () -> call.with(c, 7, -1));
        Check.badIndex("row 8", () -> call.with(c, 3, 8));
        Check.badIndex("row 8, column 0", () -> call.with(c, 0, 8));
        for (int far : FAR_OFF) {
            Check.badIndex("row " + far, () -> call.with(c, 0, far));
        }
    }

    static void noCell(BoomerangCourt c, CellCall call) {
        for (int[] cell : new int[][] {{-1, 0}, {0, -1}, {8, 0}, {0, 8}, {8, 7}, {7, 8}, {-1, 7}, {7, -1}}) {
            Check.badIndex("cell " + cell[0] + " " + cell[1], () -> call.with(c, cell[0], cell[1]));
        }
        Check.badIndex("before both", () -> call.with(c, -1, -1));
        Check.badIndex("behind both", () -> call.with(c, 8, 8));
        Check.badIndex("before and behind", () -> call.with(c, -1, 8));
        Check.badIndex("far off", () -> call.with(c, Integer.MIN_VALUE, Integer.MAX_VALUE));
    }

    /** Numbers below the first and above the last are no parties, pleas or the like. */
    static void noIndex(BoomerangCourt c, int last, NumberCall call) {
        Check.badIndex("-1", () -> call.with(c, -1));
        Check.badIndex("" + (last + 1), () -> call.with(c, last + 1));
        for (int far : FAR_OFF) {
            Check.badIndex("" + far, () -> call.with(c, far));
        }
    }

    /** No party is 0 at first; then 0 is and 1 is not; at last 7 is and 8 is not. */
    static void noParty(BoomerangCourt c, NumberCall call) {
        noIndex(c, -1, call);
        c.addParty(7, 0);
        noIndex(c, 0, call);
        Check.due("0 is a party", false, () -> "throws.IndexOutOfBoundsException".equals(
                Check.answerOf(() -> call.with(c, 0))));
        addPartiesTo(c, 8);
        noIndex(c, 7, call);
        Check.due("7 is a party", false, () -> "throws.IndexOutOfBoundsException".equals(
                Check.answerOf(() -> call.with(c, 7))));
    }

    static void addPartiesTo(BoomerangCourt c, int count) {
        for (int party = c.partyCount(); party < count; party++) {
            c.addParty(party, 7);
        }
    }

    /** No plea is 0 at first; then 0 is and 1 is not; at last 7 is and 8 is not; none is when all have expired. */
    static void noPlea(BoomerangCourt c, NumberCall call) {
        c.addParty(1, 0);
        noIndex(c, -1, call);
        c.summon(0, 0);
        noIndex(c, 0, call);
        addPartiesRoundTheBench(c);
        for (int party = 1; party < 8; party++) {
            c.summon(party, party);
        }
        noIndex(c, 7, call);
        c.pass(24);
        noIndex(c, 7, call);
        c.pass(1);
        noIndex(c, -1, call);
    }

    /** Eight parties round the bench in cell 0, so that throw n serves party n after one step. */
    static void addPartiesRoundTheBench(BoomerangCourt c) {
        int[][] cells = {{1, 0}, {1, 1}, {0, 1}, {7, 1}, {7, 0}, {7, 7}, {0, 7}, {1, 7}};
        for (int party = c.partyCount(); party < 8; party++) {
            c.addParty(cells[party][0], cells[party][1]);
        }
    }

    static void noThrow(BoomerangCourt c, NumberCall call) {
        Check.badArgument("throw -1", () -> call.with(c, -1));
        Check.badArgument("throw 64", () -> call.with(c, 64));
        for (int far : FAR_OFF) {
            Check.badArgument("throw " + far, () -> call.with(c, far));
        }
    }

    static void sitAlways(BoomerangCourt c) {
        for (int hour = 0; hour < 24; hour++) {
            c.setSitting(hour, true);
        }
    }

    static void sitNever(BoomerangCourt c) {
        for (int hour = 0; hour < 24; hour++) {
            c.setSitting(hour, false);
        }
    }

    static void passTo(BoomerangCourt c, int hour) {
        for (int left = hour - c.hour(); left > 0; left -= 48) {
            c.pass(Math.min(48, left));
        }
    }
}
