import java.io.IOException;
import java.nio.file.Files;
import java.nio.file.Path;
import java.util.ArrayList;
import java.util.List;
import java.util.Set;

/**
 * The sentences that the tests of the edges name stand in the document, under the terms or under the promise that is
 * named with them, and no sentence of the document is left out but those that tell of no edge.
 */
public final class SentencesTest {
    private static final Path DOCUMENT = Path.of("../shared/DOC.md");
    /** The headings under which there are no promises, but the aim, the face, and what is free. */
    private static final Set<String> WITHOUT_SENTENCES = Set.of("The public face", "Not promised");
    /** Headings, and names of what is given or returned. */
    private static final Set<String> WITHOUT_EDGE = Set.of(
        "A green for lawn bowls that is kept: rinks between strings, woods with bias that curve, jacks, ends that two clubs play in turn,"
            + " shots that are counted in two ways, rain and sun, worms whose casts slow woods, teas, what comes ahead, the best strength,"
            + " scripts as texts, reasons with what stands behind them, written lines, accounts, undo, and saving.",
        "Green.", "Woods.", "Ends.", "Bowling.", "Shots.", "Sweeping and teas.",
        "Texts.", "Reasons.", "Changes.", "Codes.", "Details.", "what later calls answer is free.",
        "All numbers are whole, but where it is said;",
        "Its grammar is as follows, with terminals in quotes, where braces mean repetition and brackets an optional part:",
        "- `character`: the character", "- `first`: the first column", "- `last`: the last column", "- `club`: its club",
        "- `bias`: its bias", "- `rink`: the rink", "- `length`: the length of the jack", "- `wood`: the wood",
        "- `strength`: the strength", "- `rain`: the rain", "- `sun`: the sun", "- `club`: the club",
        "- `isRight`: true to the right, false to the left", "- `isAgain`: true for the second way",
        "`int rinkOf(int rink, int what)`: Returns a number of a rink.", "`int woodOf(int wood, int what)`: Returns a number of a wood.",
        "`int clubOf(int club, int what)`: Returns a number of a club.", "`int account(int what)`: Returns an account.",
        "Returns the number;", "Returns the rink;", "Returns the wood;", "Returns the club;", "Returns the code;", "Returns the account;");

    /** A part of the document under one heading. */
    private record Part(String heading, String text) {
        /** 0 if it is under no promise. */
        int promise() {
            return heading.startsWith("Promise ") ? Integer.parseInt(heading.substring(8, heading.indexOf(':'))) : 0;
        }
    }

    private static String inOneLine(String text) {
        return String.join(" ", text.trim().split("\\s+"));
    }

    private static List<Part> parts(String document) {
        List<Part> parts = new ArrayList<>();
        String[] texts = document.split("(?m)^## ");
        for (int i = 1; i < texts.length; i++) {
            String[] headingAndText = texts[i].split("\n", 2);
            if (!WITHOUT_SENTENCES.contains(headingAndText[0])) {
                parts.add(new Part(headingAndText[0], headingAndText[1]));
            }
        }
        return parts;
    }

    /** The sentences of a part, also those that end with a semicolon, and each parameter. */
    private static List<String> sentences(Part part) {
        List<String> sentences = new ArrayList<>();
        for (String paragraph : part.text().split("\n\\s*\n|\n(?=- )")) {
            for (String sentence : inOneLine(paragraph).split("(?<=[.;]) ")) {
                sentences.add(sentence);
            }
        }
        return sentences;
    }

    private static boolean isUnder(Part part, Check.Held held) {
        return part.promise() == 0 || part.promise() == held.promise();
    }

    private static boolean isNamed(Part part, String sentence, List<Check.Held> all) {
        for (Check.Held held : all) {
            String named = inOneLine(held.sentence());
            if (isUnder(part, held) && (sentence.contains(named) || named.contains(sentence))) {
                return true;
            }
        }
        return false;
    }

    private static void holdAll(Check check) {
        GreenEdgesTest.hold(check);
        EndEdgesTest.hold(check);
        WeatherEdgesTest.hold(check);
        TextEdgesTest.hold(check);
        ReasonEdgesTest.hold(check);
        TellingEdgesTest.hold(check);
        PastEdgesTest.hold(check);
    }

    private static void dueInDocument(Check check, List<Part> parts) {
        for (Check.Held held : check.held()) {
            boolean stands = parts.stream().anyMatch(part -> isUnder(part, held)
                && inOneLine(part.text()).contains(inOneLine(held.sentence())));
            check.dueText(held + " stands in the document", "" + stands, "true");
        }
    }

    private static void dueNamed(Check check, List<Part> parts) {
        for (Part part : parts) {
            check.promise(part.promise());
            for (String sentence : sentences(part)) {
                boolean isNamed = WITHOUT_EDGE.contains(sentence) || isNamed(part, sentence, check.held());
                check.dueText("\"" + sentence + "\" is named by a test", "" + isNamed, "true");
            }
        }
    }

    public static void main(String[] args) throws IOException {
        Check check = new Check();
        holdAll(check);
        if (Files.exists(DOCUMENT)) {
            List<Part> parts = parts(Files.readString(DOCUMENT));
            dueInDocument(check, parts);
            dueNamed(check, parts);
        } else {
            System.out.println("the sentences are not compared: there is no " + DOCUMENT);
        }
        check.end();
    }
}
