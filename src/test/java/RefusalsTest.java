import java.util.ArrayList;
import java.util.List;

/** Refusals, findings and mere looks on an object that has something of everything: they change nothing but status(). */
public final class RefusalsTest {
    /** Sheet 4 has an ITEM that is beyond what may be laid; plates 0 to 3 are too unlike to be taken off, 4 is TORN, 5 missing. */
    private static final String SOMETHING_OF_EVERYTHING = """
        wave 3: 0 1000000 0, 1 1 1, 15 -1000000 1000000
        wave 0: 0 1 2, 5 -3 4, 15 0 9
        wave 7: all 100 -50
        sheet(0, 0, 64) = 64
        set(0, 0, 200) = -56
        set(0, 63, 5) = 5
        sheet(1, 1, 40) = 40
        set(1, 39, 40000) = -25536
        sheet(2, 2, 64) = 64
        set(2, 0, 16) = 16
        set(2, 63, -1000000) = -1000000
        sheet(3, 2, 0) = 0
        sheet(4, 2, 33) = 33
        set(4, 0, 7) = 7
        set(4, 32, 1000001) = 1000001
        take(0, 3, 4, 100000) = 2
        take(1, 0, 0, 100000) = 0
        take(2, 0, 0, 100000) = 0
        take(3, 7, 0, 100000) = 0
        take(4, 7, 0, 100) = 0
        lose(4, 0) = 125
        lose(4, 15) = 116
        fault "way 8;" = 4 2
        ask(4, 0) = 1738
        feed "point 6 3 3 5 1;plane 5 1 2 3 0;" = 32
        """ + "feed(0x2020202020202020, 8)\n".repeat(45) + "feed(0x20, 1) = 393\n";
    private static final String WITH_A_FINDING = "copy(0, 0, 1, 0, 0) = STORE\n";
    private static final String WITH_NONE = "as(4, 3) = 100\n";

    private static final String REFUSED = """
        sheet(-1, 0, 1) = BAD
        sheet(8, 0, 1) = BAD
        sheet(0, -1, 1) = BAD
        sheet(0, 3, 1) = BAD
        sheet(0, 0, 65) = BAD
        sheet(5, 0, 65) = BAD
        sheet(0, 1, -1) = SIZE
        sheet(5, 1, -1) = SIZE
        set(-1, 0, 1) = BAD
        set(8, 0, 1) = BAD
        set(5, 0, 1) = NULL
        set(0, -1, 1) = PLACE
        set(0, 64, 1) = PLACE
        set(3, 0, 1) = PLACE
        copy(-1, 0, 0, 0, 1) = BAD
        copy(0, 0, 8, 0, 1) = BAD
        copy(5, 0, 0, 0, 1) = NULL
        copy(0, 0, 5, 0, 1) = NULL
        copy(0, 0, 1, 0, 1) = STORE
        copy(2, 0, 4, 0, 34) = PLACE
        copy(2, 0, 4, 1, 33) = PLACE
        copy(4, 32, 2, 0, 2) = PLACE
        copy(2, -1, 4, 0, 1) = PLACE
        copy(2, 0, 4, -1, 2) = PLACE
        copy(2, 0, 4, 0, -1) = PLACE
        copy(2, 0, 2, 1, 64) = PLACE
        drop(-1) = BAD
        drop(8) = BAD
        drop(5) = NULL
        feed(0x2020, 0) = BAD
        feed(0x2020, 9) = BAD
        feed(0x2020202020202020, 8) = FULL
        way(-1, 0) = BAD
        way(8, 0) = BAD
        way(0, 2) = BAD
        way(0, -1) = BAD
        way(0, 1) = STATE
        way(3, 0) = FULL
        lay(-1, 2, 0) = BAD
        lay(8, 2, 0) = BAD
        lay(0, -1, 0) = BAD
        lay(0, 8, 0) = BAD
        lay(0, 5, 0) = NULL
        lay(0, 2, -1) = PLACE
        lay(0, 2, 33) = PLACE
        lay(0, 3, 0) = PLACE
        lay(0, 4, 1) = BAD
        part(8, 0, 0) = BAD
        part(0, 16, 0) = BAD
        part(0, 0, 2) = BAD
        bright(8, 0) = BAD
        bright(0, 16) = BAD
        moved(8, 0, 0) = BAD
        moved(0, 8, 0) = BAD
        moved(0, 0, 16) = BAD
        take(6, 0, 0, 1) = BAD
        take(-1, 0, 0, 1) = BAD
        take(0, 8, 0, 1) = BAD
        take(5, 0, 8, 1) = BAD
        take(0, 0, 0, 0) = BAD
        take(5, 0, 0, 0) = BAD
        take(0, 0, 0, 100001) = BAD
        lose(6, 0) = BAD
        lose(0, 16) = BAD
        lose(0, -1) = BAD
        lose(5, 0) = NULL
        grain(6, 0) = BAD
        grain(0, 16) = BAD
        grain(0, -2) = BAD
        grain(5, 0) = NULL
        read(6, 0, 1) = BAD
        read(1, 8, 0) = BAD
        read(1, 0, 8) = BAD
        read(5, 0, 1) = NULL
        read(0, 3, 1) = FULL
        read(0, 3, 3) = FULL
        parts(8, 0, 0, 1) = BAD
        parts(0, 8, 0, 1) = BAD
        parts(0, 0, 4, 1) = BAD
        parts(0, 0, 0, 8) = BAD
        parts(0, 3, 0, 1) = FULL
        parts(0, 3, 2, 0) = FULL
        parts(3, 0, 1, 3) = FULL
        parts(0, 3, 3, 0) = FULL
        off(3, 1) = BAD
        off(-1, 1) = BAD
        off(0, 8) = BAD
        off(2, 1) = NULL
        off(1, 1) = STATE
        off(0, 1) = FULL
        off(0, 3) = FULL
        lack(6, 0, 0) = BAD
        lack(0, 6, 0) = BAD
        lack(0, 0, 8) = BAD
        lack(5, 0, 0) = NULL
        lack(0, 5, 0) = NULL
        fits(16, 2, 0, 0) = BAD
        fits(0, 8, 0, 0) = BAD
        fits(0, 2, 0, -3) = BAD
        fits(0, 5, 0, 0) = NULL
        fits(0, 2, 61, 0) = PLACE
        fits(0, 3, 0, 0) = PLACE
        mark(6, 0, 0) = BAD
        mark(0, 65536, 0) = BAD
        mark(0, 0, 2) = BAD
        mark(5, 0, 1) = NULL
        aim(4, 0, 0, 0, 0) = BAD
        aim(0, 0, 0, 0, 2) = BAD
        kind(6) = BAD
        kind(5) = NULL
        as(6, 0) = BAD
        as(0, 5) = BAD
        as(5, 0) = NULL
        as(4, 1) = KIND
        as(4, 4) = KIND
        as(0, 2) = KIND
        as(1, 3) = KIND
        ask(6, 0) = BAD
        ask(4, 2) = BAD
        ask(4, -1) = BAD
        ask(5, 0) = NULL
        count(8) = BAD
        count(-1) = BAD
        """;
    /** Calls that only tell something. */
    private static final String LOOKS = """
        fault() = 2
        part(3, 15, 1) = 1000000
        bright(0, NONE) = 111
        moved(0, 0, 5) = 0
        grain(4, 0) = NONE
        grain(4, -1) = 100
        lack(0, 1, 0) = 306000000
        fits(15, 2, 0, -1) = 4
        fits(15, 2, 0, 4) = NONE
        mark(4, 32767, 0) = 1740
        mark(4, 65535, 1) = 4
        aim(0, 0, 0, 0, 1) = 65535
        kind(4) = 3
        as(4, 0) = 100
        trace(0) = 13
        trace(16) = NONE
        count(5) = 1
        status() = 5
        copy(0, 0, 0, 0, 64) = 64
        copy(2, 64, 4, 33, 0) = 0
        way(1, 0) = 1
        """;

    public static void main(String[] args) {
        Check.says("What is refused, or found, changes nothing but status().");
        theSceneStands();
        for (Step refused : Step.allOf(REFUSED)) {
            answersAsDue(refused, WITH_A_FINDING, 5);
            answersAsDue(refused, WITH_NONE, 0);
            Runs.changesNothing(scene(WITH_A_FINDING), refused);
        }
        for (Step look : Step.allOf(LOOKS)) {
            answersAsDue(look, WITH_A_FINDING, 5);
            Runs.changesNothing(scene(WITH_A_FINDING), look);
        }
        Check.finish();
    }

    private static List<Step> scene(String end) {
        return new ArrayList<>(Step.allOf(SOMETHING_OF_EVERYTHING + end));
    }

    private static void theSceneStands() {
        GrainWaves g = new GrainWaves();
        for (Step step : scene(WITH_A_FINDING)) {
            long got = step.on(g);
            Check.due("scene: " + step.told(), got, step.due == null ? got : step.due);
        }
    }

    private static void answersAsDue(Step step, String end, int status) {
        GrainWaves g = Runs.after(scene(end));
        long got = step.on(g);
        Check.due(step.told(), got, step.due);
        Check.status(g, step.told(), step.statusAfter(status, got));
    }
}
