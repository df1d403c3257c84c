/** Counts and prints the answers that are not the ones due. */
final class Check {
    static final int NONE = -1000000, BAD = -1000001, STATE = -1000002, FULL = -1000003;
    static final int NULL = -1000011, PLACE = -1000012, KIND = -1000013, SIZE = -1000014, STORE = -1000015;

    private static int wrong = 0;
    private static String sentence = "";

    private Check() {
    }

    /** The words of the document that the answers from here on are tested for. */
    static void says(String words) {
        sentence = words;
    }

    static void due(String call, long got, long want) {
        if (got != want) {
            wrong++;
            System.out.println(call + " answered " + got + ", due is " + want
                + (sentence.isEmpty() ? "" : " (\"" + sentence + "\")"));
        }
    }

    /** Feeds a text, at most eight bytes a call, and gives what the last call answered. */
    static int feed(GrainWaves g, String text) {
        int answer = 0;
        for (int at = 0; at < text.length(); at += 8) {
            int end = Math.min(text.length(), at + 8);
            long w = 0;
            for (int k = at; k < end; k++) {
                w = w << 8 | text.charAt(k);
            }
            answer = g.feed(w, end - at);
        }
        return answer;
    }

    static int run(GrainWaves g, String text) {
        feed(g, text);
        return g.run();
    }

    static void ran(GrainWaves g, String text, int want) {
        due("run of '" + text + "'", run(g, text), want);
    }

    /** A text with a FAULT: where, and which one. */
    static void faulty(GrainWaves g, String text, int place, int number) {
        ran(g, text, -1000100 - place);
        due("fault of '" + text + "'", g.fault(), number);
        due("tape after '" + text + "'", g.count(7), 0);
    }

    static void number(GrainWaves g, int wave, int place, int re, int im) {
        due("part(" + wave + ", " + place + ", 0)", g.part(wave, place, 0), re);
        due("part(" + wave + ", " + place + ", 1)", g.part(wave, place, 1), im);
    }

    static void status(GrainWaves g, String after, int want) {
        due("status after " + after, g.status(), want);
    }

    static int wrongOnes() {
        return wrong;
    }

    static void finish() {
        if (wrong != 0) {
            System.out.println(wrong + " answers are not as due");
            System.exit(1);
        }
    }
}
