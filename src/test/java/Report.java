import java.util.LinkedHashSet;
import java.util.Set;

/** Which promise and which sentence of the document is tested just now, and what was not as due. */
final class Report {
    /** The edge of a call that could be refused for more than one reason. */
    static final String ORDER = "the first that fits, in this order";
    private static final int PROMISES = 30;
    private static final int MOST_TOLD = 60;
    private static final Set<String> SENTENCES = new LinkedHashSet<>();
    private static final boolean[] NAMED = new boolean[PROMISES + 1];
    private static String about = "";
    private static int answers;
    private static int wrong;

    private Report() {
    }

    /** All that follows stands for this sentence of the document, until the next one is named. */
    static void sentence(int number, String sentence) {
        sentence(number, sentence, "");
    }

    /** The same, of one edge of the sentence. */
    static void sentence(int number, String sentence, String edge) {
        String words = edge.isEmpty() ? sentence : sentence + " [" + edge + "]";
        about = "promise " + number + ", \"" + words + "\"";
        NAMED[number] = true;
        SENTENCES.add(about);
    }

    /** All that follows is of this run, whichever promises it comes to. */
    static void setting(String run) {
        about = run;
    }

    static void due(String call, long got, long want) {
        answers++;
        if (got != want) {
            fault(call + " answered " + got + ", due is " + want);
        }
    }

    /** Something that is asked of the class itself, not of an answer of it. */
    static void holds(boolean fine, String fault) {
        answers++;
        if (!fine) {
            fault(fault);
        }
    }

    static void fault(String what) {
        wrong++;
        if (wrong <= MOST_TOLD) {
            System.out.println(about + ": " + what);
        }
    }

    /** Ends a test of sentences: each promise must have one. */
    static void endOfSentences(String test) {
        for (int number = 1; number <= PROMISES; number++) {
            if (!NAMED[number]) {
                wrong++;
                System.out.println("promise " + number + " has no sentence that is tested");
            }
        }
        System.out.println(test + ": " + SENTENCES.size() + " sentences");
        end(test);
    }

    /** Ends the test with code 1 if something was not as due. */
    static void end(String test) {
        System.out.println(test + ": " + answers + " answers, " + wrong + " of them not as due");
        if (wrong != 0) {
            System.exit(1);
        }
    }
}
