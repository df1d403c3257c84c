/** What the document says of all calls: numbers, the order of refusals, findings, and how long an object is good. */
public final class TermsSentencesTest {
    public static void main(String[] args) {
        numbersAndDivisions();
        refusalsOfSheets();
        refusalsOfWaves();
        refusalsOfPlates();
        findings();
        lastCall();
        noCallThrows();
        Check.finish();
    }

    private static void numbersAndDivisions() {
        Runs.says("Numbers go from 0 on.", """
            sheet(0, 0, 1) = 1
            sheet(-1, 0, 1) = BAD
            sheet(0, -1, 1) = BAD
            set(0, 0, 5) = 5
            set(0, -1, 5) = PLACE
            part(0, 0, 0) = 0
            part(-1, 0, 0) = BAD
            part(0, -1, 0) = BAD
            part(0, 0, -1) = BAD
            take(0, 0, 0, 1) = 0
            take(-1, 0, 0, 1) = BAD
            grain(0, 0) = 0
            ask(0, 0) = 2
            trace(0) = 12
            trace(-1) = NONE
            count(0) = 1
            count(-1) = BAD
            """);
        Runs.says("All that is divided is cut towards 0.", """
            run "point 0 0 0 2 0;point 0 1 0 2 0;point 0 1 0 1 1;point 0 2 0 3 0;point 0 3 0 3 0;point 0 3 0 1 3;" = 6
            take(0, 0, 1, 5) = 0
            grain(0, 0) = 0
            grain(0, 1) = 1
            grain(0, 2) = 1
            grain(0, 3) = 2
            """);
    }

    /** Each call is wrong in as many ways as are left; the first of them is mended from line to line. */
    private static void refusalsOfSheets() {
        String words = "Refusals are answers, the first of these that fits: BAD (a number is not as told; there is no such thing),";
        Runs.says(words, """
            sheet(8, 3, -1) = BAD
            sheet(0, 3, -1) = BAD
            sheet(0, 2, -1) = SIZE
            set(8, -1, 0) = BAD
            set(0, -1, 0) = NULL
            sheet(0, 0, 0) = 0
            set(0, -1, 0) = PLACE
            drop(8) = BAD
            drop(1) = NULL
            """);
        Runs.says("then FINDINGS, of several the first in time:", """
            sheet(2, 1, 4) = 4
            copy(8, -1, 1, -1, -1) = BAD
            copy(0, -1, 8, -1, -1) = BAD
            copy(0, -1, 1, -1, -1) = NULL
            sheet(0, 0, 4) = 4
            copy(0, -1, 1, -1, -1) = NULL
            copy(1, -1, 0, -1, -1) = NULL
            copy(0, -1, 2, -1, -1) = STORE
            copy(2, -1, 0, -1, -1) = STORE
            sheet(2, 0, 4) = 4
            copy(0, -1, 2, 0, 0) = PLACE
            copy(0, 0, 2, 0, 0) = 0
            fits(16, 1, -1, -3) = BAD
            fits(0, 8, -1, -3) = BAD
            fits(0, 1, -1, -3) = BAD
            fits(0, 1, -1, 0) = NULL
            fits(0, 0, -1, 0) = PLACE
            fits(0, 0, 0, 0) = 0
            """);
    }

    private static void refusalsOfWaves() {
        Runs.says("STATE (as told), FULL (as told)", """
            run "point 0 0 0 1 0;" = 1
            way(8, 1) = BAD
            way(0, 2) = BAD
            way(0, 1) = STATE
            wave 1: 0 1000000 0, 1 1 0
            way(1, 2) = BAD
            way(1, 0) = FULL
            way(1, 1) = STATE
            parts(8, 1, 0, 0) = BAD
            parts(1, 8, 0, 0) = BAD
            parts(1, 1, 4, 0) = BAD
            parts(1, 1, 0, 8) = BAD
            parts(1, 1, 0, 0) = FULL
            """);
        Runs.says("BAD: WAVE, SHEET; NULL; PLACE; then BAD: an ITEM is beyond 1000000.", """
            lay(8, 0, -1) = BAD
            lay(0, 8, -1) = BAD
            lay(0, 0, -1) = NULL
            sheet(0, 2, 32) = 32
            set(0, 31, 1000001) = 1000001
            lay(0, 0, -1) = PLACE
            lay(0, 0, 1) = PLACE
            lay(0, 0, 0) = BAD
            set(0, 31, 1000000) = 1000000
            lay(0, 0, 0) = 1
            """);
        Runs.says("BAD: n; FULL: none comes.", "feed(0x2020202020202020, 8)\n".repeat(50) + """
            count(7) = 400
            feed(32, 0) = BAD
            feed(32, 9) = BAD
            feed(32, 1) = FULL
            feed(32, 8) = FULL
            """);
    }

    private static void refusalsOfPlates() {
        Runs.says("BAD; NULL; then FULL.", """
            read(6, 0, 0) = BAD
            read(0, 8, 0) = BAD
            read(0, 0, 8) = BAD
            read(0, 0, 0) = NULL
            wave 1: all 1000000 0
            take(0, 1, 1, 100000) = 16
            read(0, 1, 8) = BAD
            read(0, 1, 0) = FULL
            read(0, 2, 0) = 1
            """);
        Runs.says("BAD (p 0 to 2); NULL; then STATE: a GRAIN is LOST, or STEPS are unlike; FULL.", """
            off(3, 0) = BAD
            off(0, 8) = BAD
            wave 1: all 1000000 0
            take(0, 1, 1, 100000) = 16
            take(1, 0, 0, 100000) = 0
            take(2, 0, 0, 99999) = 0
            lose(1, 4) = 0
            off(0, 8) = BAD
            off(0, 0) = NULL
            take(3, 0, 0, 100000) = 0
            off(0, 0) = STATE
            take(1, 0, 0, 100000) = 0
            off(0, 0) = STATE
            take(2, 0, 0, 100000) = 0
            off(0, 8) = BAD
            off(0, 0) = FULL
            take(2, 1, 1, 100000) = 16
            off(0, 0) = 1
            """);
        Runs.says("BAD; NULL; KIND: it is no such one.", """
            as(6, 5) = BAD
            as(0, 5) = BAD
            as(0, 4) = NULL
            take(0, 0, 0, 1) = 0
            as(0, 4) = KIND
            as(0, 2) = 1
            lose(6, 16) = BAD
            lose(1, 16) = BAD
            lose(1, 15) = NULL
            grain(6, 16) = BAD
            grain(1, 16) = BAD
            grain(1, 15) = NULL
            lack(6, 1, 8) = BAD
            lack(1, 6, 0) = BAD
            lack(1, 1, 8) = BAD
            lack(1, 1, 0) = NULL
            mark(6, 65536, 2) = BAD
            mark(1, 65536, 0) = BAD
            mark(1, 0, 2) = BAD
            mark(1, 0, 0) = NULL
            kind(6) = BAD
            kind(1) = NULL
            ask(6, 2) = BAD
            ask(1, 2) = BAD
            ask(1, 0) = NULL
            """);
    }

    private static void findings() {
        Runs.says("-1000010 less 1 NULL (a SHEET that is missing, a PLATE that is missing)", """
            drop(0) = -1000011
            status() = 1
            sheet(0, 0, 1) = 1
            status() = 0
            kind(0) = -1000011
            status() = 1
            """);
        Runs.says("2 PLACE (no such place of a SHEET)", """
            sheet(0, 0, 1) = 1
            set(0, 1, 0) = -1000012
            status() = 2
            """);
        Runs.says("3 KIND (a PLATE that is not that)", """
            take(0, 0, 0, 1) = 0
            as(0, 3) = -1000013
            status() = 3
            """);
        Runs.says("4 SIZE (fewer than none)", """
            sheet(0, 0, 0) = 0
            sheet(0, 0, -1) = -1000014
            status() = 4
            """);
        Runs.says("5 STORE (SHEETS of two LANES).", """
            sheet(0, 0, 1) = 1
            sheet(1, 1, 1) = 1
            copy(0, 0, 1, 0, 1) = -1000015
            status() = 5
            """);
    }

    /** The calls that take the most out of an object, and the last of the 512 still answers as due. */
    private static void lastCall() {
        Check.says("An object is used for at most 512 calls after it has been made;");
        GrainWaves g = new GrainWaves();
        g.sheet(0, 0, 4);
        g.take(0, 0, 0, 1);
        for (int call = 3; call <= 511; call++) {
            switch (call % 4) {
                case 0 -> Check.due("call " + call + ": mark", g.mark(0, call, 1), 65536);
                case 1 -> Check.due("call " + call + ": ask", g.ask(0, 1), 1002);
                case 2 -> Check.due("call " + call + ": sheet", g.sheet(call % 8, 2, 64), 64);
                default -> Check.due("call " + call + ": fits", g.fits(0, 0, 0, -1), 1);
            }
        }
        Check.due("call 512: trace(5)", g.trace(5), 10);
    }

    /** Later calls may answer what they like; that none throws is a rule of LANGUAGE.md. */
    private static void noCallThrows() {
        Check.says("what later calls answer is free.");
        GrainWaves g = new GrainWaves();
        int[] edges = {Integer.MIN_VALUE, -1000000, -1, 0, 3, 7, 16, 64, Integer.MAX_VALUE};
        for (int a : edges) {
            for (int b : edges) {
                for (int c : edges) {
                    for (Step step : Step.allOf(String.format("""
                        sheet(%1$d, %2$d, %3$d)
                        set(%1$d, %2$d, %3$d)
                        copy(%1$d, %2$d, %3$d, %1$d, %2$d)
                        drop(%1$d)
                        feed(%1$d, %2$d)
                        run()
                        fault()
                        way(%1$d, %2$d)
                        lay(%1$d, %2$d, %3$d)
                        part(%1$d, %2$d, %3$d)
                        bright(%1$d, %2$d)
                        moved(%1$d, %2$d, %3$d)
                        take(%1$d, %2$d, %3$d, %1$d)
                        take(%1$d, %2$d, %3$d, 1)
                        lose(%1$d, %2$d)
                        grain(%1$d, %2$d)
                        read(%1$d, %2$d, %3$d)
                        parts(%1$d, %2$d, %3$d, %1$d)
                        off(%1$d, %2$d)
                        lack(%1$d, %2$d, %3$d)
                        fits(%1$d, %2$d, %3$d, %1$d)
                        mark(%1$d, %2$d, %3$d)
                        aim(%1$d, %2$d, %3$d, %1$d, %2$d)
                        kind(%1$d)
                        as(%1$d, %2$d)
                        ask(%1$d, %2$d)
                        trace(%1$d)
                        count(%1$d)
                        status()
                        """, a, b, c))) {
                        Check.due(step.told() + " throws", step.on(g) == Long.MIN_VALUE ? 1 : 0, 0);
                    }
                }
            }
        }
    }
}
