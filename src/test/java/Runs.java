import java.util.Arrays;
import java.util.List;

/**
 * Plays runs that are told in lines, each run on a new object and for one sentence of the document. The lines:
 * name(1, 2) = 3            a call and the answer that is due (also MAX, MIN, NONE, BAD, .. STORE)
 * name(1, 2)                a call whose answer is not looked at
 * run "way 0;" = 1          the text is fed, <10> being the byte 10, and run; the tape is empty then
 * feed "way 0;" = 6         the text is fed only: what the last feed answers
 * fault "way 8;" = 4 2      the text has a FAULT: its place and its number; the tape is empty then
 * number(0, 15) = 1 -1      both parts at a place
 * even(0) = 1 -1            both parts at all places
 * wave 0: 15 1 -1, 3 2 2    a wave is laid, 0 elsewhere ("all" for every place); sheet 7 is missing then
 * Behind every call status() is looked at, and behind every refusal all that can be seen of the object.
 */
final class Runs {
    private static final int GOOD_FOR = 512;

    private Runs() {
    }

    static void says(String sentence, String lines) {
        Check.says(sentence);
        List<Step> steps = Step.allOf(lines);
        Check.due("an object is good for so many calls", Math.max(GOOD_FOR, 2 * steps.size()), GOOD_FOR);
        GrainWaves g = new GrainWaves();
        int status = 0;
        for (int k = 0; k < steps.size(); k++) {
            Step step = steps.get(k);
            long got = step.on(g);
            if (step.due != null) {
                Check.due("call " + (k + 1) + ", " + step.told() + ",", got, step.due);
            }
            status = step.statusAfter(status, got);
            Check.status(g, "call " + (k + 1) + ", " + step.told() + ",", status);
            if (step.isRefused()) {
                changesNothing(steps.subList(0, k), step);
            }
        }
    }

    /** The same line with each number from first to last in place of #. */
    static String each(int first, int last, String line) {
        StringBuilder lines = new StringBuilder();
        for (int k = first; k <= last; k++) {
            lines.append(line.replace("#", Integer.toString(k))).append('\n');
        }
        return lines.toString();
    }

    /** Two objects of the same calls, one of them with the refused call behind these, look alike. */
    static void changesNothing(List<Step> ahead, Step refused) {
        Check.due("calls ahead of a look", Math.max(GOOD_FOR, ahead.size() + 1 + Looks.MOST_CALLS), GOOD_FOR);
        for (int which = 0; which < Looks.ALL; which++) {
            // Promise 26: the trace is emptied by an ask that is found, too.
            boolean mayChange = which == Looks.TRACE && refused.name.equals("ask") && Step.isFinding(refused.due);
            if (!mayChange) {
                GrainWaves without = after(ahead);
                GrainWaves with = after(ahead);
                refused.on(with);
                boolean alike = Arrays.equals(Looks.look(with, which), Looks.look(without, which));
                Check.due(refused.told() + " is refused: " + Looks.nameOf(which) + " as ahead", alike ? 1 : 0, 1);
            }
        }
    }

    static GrainWaves after(List<Step> steps) {
        GrainWaves g = new GrainWaves();
        for (Step step : steps) {
            step.on(g);
        }
        return g;
    }
}
