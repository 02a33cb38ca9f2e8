import java.io.IOException;
import java.nio.file.Files;
import java.nio.file.Path;
import java.util.LinkedHashMap;
import java.util.Map;
import java.util.function.Consumer;
import java.util.function.Supplier;

/** Counts the answers that are not as due, and tells them. */
final class Checks {
    static final int BAD = -1, STATE = -2, FULL = -3, NONE = -9;
    private static final Path DOCUMENT = Path.of("../shared/DOC.md");
    /** How often twins() looks: behind 0 to 6 undo(), back(0), back(1), floor(), type(). */
    private static final int LOOKS = 11;

    private final String name;
    private final Map<String, Integer> answersOfSentence = new LinkedHashMap<>();
    private String sentence;
    private int asked;
    private int wrong;

    Checks(String name) {
        this.name = name;
    }

    /** From here on answers are held to this sentence of the document. */
    void sentence(String quote) {
        sentence = quote;
        answersOfSentence.putIfAbsent(quote, 0);
    }

    void due(String call, int got, int want) {
        asked++;
        if (sentence != null) {
            answersOfSentence.merge(sentence, 1, Integer::sum);
        }
        if (got != want) {
            wrong++;
            System.out.println(name + ": " + call + " answered " + got + ", due is " + want
                + (sentence == null ? "" : ", by '" + sentence + "'"));
        }
    }

    void holds(String what, boolean so) {
        due(what, so ? 1 : 0, 1);
    }

    int wrong() {
        return wrong;
    }

    /** The call answers as due, and is refused: whatever is seen of the object later is as without it. */
    void refused(String call, Supplier<SweptFloors> made, Consumer<SweptFloors> doing, int got, int want) {
        due(call, got, want);
        holds(call + " changes nothing", twins(made, doing));
    }

    void end() {
        sentence = null;
        sentencesStandInTheDocument();
        System.out.println(name + ": " + asked + " answers, " + wrong + " not as due");
        if (wrong != 0) {
            System.exit(1);
        }
    }

    private void sentencesStandInTheDocument() {
        String document;
        try {
            document = Files.readString(DOCUMENT).replaceAll("\\s+", " ");
        } catch (IOException e) {
            System.out.println(name + ": the document could not be read, its sentences are taken as quoted");
            document = null;
        }
        for (Map.Entry<String, Integer> quoted : answersOfSentence.entrySet()) {
            due("answers held to '" + quoted.getKey() + "'", quoted.getValue() > 0 ? 1 : 0, 1);
            if (document != null) {
                due("the document says '" + quoted.getKey() + "'", document.contains(quoted.getKey()) ? 1 : 0, 1);
            }
        }
    }

    /**
     * Whether a call leaves no trace: of two objects made alike only one gets it, and they are looked at later.
     * Each look has objects of its own, so that none comes to 512 calls.
     */
    static boolean twins(Supplier<SweptFloors> made, Consumer<SweptFloors> doing) {
        for (int look = 0; look < LOOKS; look++) {
            SweptFloors with = made.get();
            doing.accept(with);
            if (!later(with, look).equals(later(made.get(), look))) {
                return false;
            }
        }
        return true;
    }

    private static String later(SweptFloors x, int look) {
        StringBuilder answers = new StringBuilder();
        if (look <= 6) {
            for (int i = 0; i < look; i++) {
                answers.append(x.undo()).append(' ');
            }
        } else if (look <= 8) {
            answers.append(x.back(look - 7)).append(' ');
        } else if (look == 9) {
            answers.append(x.floor()).append(' ');
        } else {
            answers.append(x.type('.')).append(' ').append(x.floor()).append(' ');
        }
        return answers.append(portrait(x)).toString();
    }

    static void tell(SweptFloors x, String text) {
        for (int i = 0; i < text.length(); i++) {
            x.type(text.charAt(i));
        }
    }

    static SweptFloors floorOf(String text) {
        SweptFloors x = new SweptFloors();
        tell(x, text);
        if (x.floor() < 1) {
            throw new IllegalStateException("no floor: " + text);
        }
        return x;
    }

    /** The text of a floor with nothing but plain cells and the dock. */
    static String plainFloor(int width, int height, int dock) {
        StringBuilder text = new StringBuilder();
        for (int cell = 0; cell < width * height; cell++) {
            text.append(cell == dock ? 'D' : '.');
            if (cell % width == width - 1) {
                text.append(';');
            }
        }
        return text.toString();
    }

    static String times(int n, String text) {
        return text.repeat(n);
    }

    /** Steps to these hands one by one, turned first; answers what the last step told. */
    static int walk(SweptFloors x, int... hands) {
        int told = NONE;
        for (int hand : hands) {
            face(x, hand);
            told = x.steps();
        }
        return told;
    }

    static void face(SweptFloors x, int hand) {
        int quarters = (hand - x.robot(1) + 4) % 4;
        if (quarters != 0) {
            x.rotates(quarters);
        }
    }

    /** All that can be asked of an object, in one text: two that answer alike are taken to be alike. */
    static String portrait(SweptFloors x) {
        StringBuilder all = new StringBuilder();
        for (int what = 0; what <= 6; what++) {
            all.append(x.count(what)).append(' ');
        }
        all.append('|');
        for (int what = 0; what <= 5; what++) {
            all.append(x.robot(what)).append(' ');
        }
        all.append('|');
        int cells = x.count(0) * x.count(1);
        for (int cell = -1; cell < cells; cell++) {
            all.append(x.cell(cell)).append(' ').append(x.knows(cell)).append(' ');
            all.append(x.home(cell)).append(' ').append(x.room(cell)).append(',');
        }
        all.append('|');
        int places = x.place(-1);
        for (int k = -1; k <= places; k++) {
            all.append(x.place(k)).append(' ');
        }
        all.append('|');
        int lanes = x.lane(-1, 0);
        for (int k = -1; k <= lanes; k++) {
            all.append(x.lane(k, 0)).append(' ').append(x.lane(k, 1)).append(' ');
        }
        all.append('|');
        for (int what = 0; what <= 3; what++) {
            all.append(x.target(what)).append(' ');
        }
        all.append('|').append(x.reach(0)).append(' ').append(x.reach(1)).append(' ').append(x.when());
        return all.toString();
    }
}
