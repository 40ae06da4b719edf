import java.util.ArrayList;
import java.util.List;

/**
 * Calls on one new object, written as texts: "run(0, 1, 2, MAX)", with " -> " and the answer that is due behind it, if
 * it is asked for. Calls stand on lines of their own or have ';' between them. "[0 2..4 MAX]" stands for each of its
 * numbers, one after the other. A boolean counts 1 or 0.
 */
final class Talk {
    // What later calls answer is free, so a test that makes more of them is wrong itself.
    private static final int MOST_CALLS = 512;

    private final RunPictures house = new RunPictures();
    private final String sentence;
    private int calls = 0;

    Talk(String sentence) {
        this.sentence = sentence;
    }

    /** A sentence of the document, and calls on a new object that would answer otherwise if it were broken. */
    static Talk edge(String sentence, String script) {
        return new Talk(sentence).script(script);
    }

    /** A new object whose puzzle 0 has these clues, as given() takes them. */
    static Talk ofClues(String sentence, int width, int height, int colours, String clues) {
        Talk talk = new Talk(sentence);
        talk.given(width, height, colours, clues);
        return talk;
    }

    /** A new object whose puzzle 0 has the clues of this picture, as make() takes it. */
    static Talk ofPicture(String sentence, int colours, String picture) {
        Talk talk = new Talk(sentence);
        talk.make(colours, picture);
        return talk;
    }

    Talk script(String text) {
        for (String part : text.split("[;\n]")) {
            if (part.isBlank()) {
                continue;
            }
            String[] sides = part.split("->");
            for (String call : spread(sides[0].strip())) {
                long got = say(call);
                if (sides.length > 1) {
                    Check.due(sentence + " | call " + calls + ": " + call, got, number(sides[1].strip()));
                }
            }
        }
        return this;
    }

    Talk due(String call, long want) {
        Check.due(sentence + " | call " + (calls + 1) + ": " + call, say(call), want);
        return this;
    }

    /** A puzzle of a picture, told by rows of digits with '/' between them: its number. */
    int make(int colours, String picture) {
        String[] rows = picture.split("/");
        for (int y = 0; y < rows.length; y++) {
            for (int x = 0; x < rows[y].length(); x++) {
                say("paint(" + x + ", " + y + ", " + rows[y].charAt(x) + ")");
            }
        }
        return (int) say("make(" + rows[0].length() + ", " + rows.length + ", " + colours + ")");
    }

    /** A puzzle whose lines' clues are written as write() writes them, with '/' between them: its number. */
    int given(int width, int height, int colours, String clues) {
        int p = (int) say("puzzle(" + width + ", " + height + ", " + colours + ")");
        String[] lines = clues.split("/");
        for (int line = 0; line < lines.length; line++) {
            for (String run : lines[line].equals("0") ? new String[0] : lines[line].split(" ")) {
                int last = run.length() - 1;
                int colour = run.charAt(last) - 'a' + 1;
                String call = "run(" + p + ", " + line + ", " + colour + ", " + run.substring(0, last) + ")";
                Check.holds(sentence + " | a run comes by " + call, say(call) > 0);
            }
        }
        return p;
    }

    /** What a call with a number from 0 on as its last argument answers, a digit each time. */
    Talk rowDue(String call, String want) {
        StringBuilder got = new StringBuilder();
        for (int i = 0; i < want.length(); i++) {
            got.append(say(call + i + ")"));
        }
        Pictures.same(sentence + " | " + call + "0 ..)", got.toString(), want);
        return this;
    }

    /** The answer to one call. */
    long say(String call) {
        calls++;
        Check.holds(sentence + " | a test has at most " + MOST_CALLS + " calls of one object", calls <= MOST_CALLS);
        String name = call.substring(0, call.indexOf('('));
        String inside = call.substring(name.length() + 1, call.length() - 1).strip();
        String[] words = inside.isEmpty() ? new String[0] : inside.split(",");
        int[] numbers = new int[words.length];
        for (int i = 0; i < words.length; i++) {
            numbers[i] = (int) number(words[i].strip());
        }
        return Calls.answer(house, name, numbers);
    }

    private static long number(String word) {
        if (word.equals("MAX")) {
            return Integer.MAX_VALUE;
        }
        if (word.equals("MIN")) {
            return Integer.MIN_VALUE;
        }
        return word.startsWith("'") ? word.charAt(1) : Long.parseLong(word);
    }

    static List<String> spread(String call) {
        int from = call.indexOf('[');
        if (from < 0) {
            return List.of(call);
        }
        int to = call.indexOf(']');
        List<String> all = new ArrayList<>();
        for (String word : call.substring(from + 1, to).split(" ")) {
            int dots = word.indexOf("..");
            long first = number(dots < 0 ? word : word.substring(0, dots));
            long last = dots < 0 ? first : number(word.substring(dots + 2));
            for (long i = first; i <= last; i++) {
                all.addAll(spread(call.substring(0, from) + i + call.substring(to + 1)));
            }
        }
        return all;
    }
}
