/** The sentences of the document on PLATES, and of promises 14 to 20. */
public final class PlateSentencesTest {
    public static void main(String[] args) {
        platesAtFirst();
        takes();
        takeRefused();
        lose();
        grain();
        read();
        readRefused();
        parts();
        partsRefused();
        off();
        offNull();
        offState();
        offRefused();
        lack();
        lackRefused();
        Check.finish();
    }

    private static void platesAtFirst() {
        Runs.says("PLATES 0 .. 5 are missing (at first), or have", """
            count(2) = 0
            """ + Runs.each(0, 5, "grain(#, 0) = NULL") + """
            grain(-1, 0) = BAD
            grain(6, 0) = BAD
            take(0, 0, 0, 1) = 0
            take(5, 0, 0, 1) = 0
            take(-1, 0, 0, 1) = BAD
            take(6, 0, 0, 1) = BAD
            count(2) = 2
            """ + Runs.each(1, 4, "grain(#, 0) = NULL"));
        // By 4, 1018 is 254, 1021 is 255, and 1024 is 256.
        Runs.says("16 GRAINS (0 to 255 each, or LOST)", """
            wave 0: 0 27 17, 1 30 11, 2 32 0, 15 2 0, 14 1 1
            take(0, 0, 1, 4) = 2
            grain(0, 0) = 254
            grain(0, 1) = 255
            grain(0, 2) = 255
            grain(0, 15) = 1
            grain(0, 14) = 0
            lose(0, 15) = 1
            grain(0, 15) = NONE
            grain(0, 16) = BAD
            """);
        Runs.says("and a STEP (1 to 100000).", """
            take(0, 0, 0, 1) = 0
            grain(0, -1) = 1
            take(0, 0, 0, 0) = BAD
            take(0, 0, 0, 100001) = BAD
            grain(0, -1) = 1
            take(0, 0, 0, 100000) = 0
            grain(0, -1) = 100000
            """);
    }

    private static void takes() {
        String words = "TAKE of two WAVES: at each place BRIGHT of their sum by STEP, 255 at most.";
        Runs.says(words, """
            wave 0: 0 3 4, 1 5 5, 2 -1 0, 15 8 8
            wave 1: 0 -3 -4, 1 1 -5, 2 0 1, 15 8 8
            take(0, 0, 1, 1) = 1
            grain(0, 0) = 0
            grain(0, 1) = 36
            grain(0, 2) = 2
            grain(0, 3) = 0
            grain(0, 15) = 255
            take(0, 0, 1, 2) = 1
            grain(0, 1) = 18
            grain(0, 15) = 255
            take(0, 0, 1, 3) = 0
            grain(0, 2) = 0
            grain(0, 15) = 170
            """);
        // 2 to the power 32 and 8000000000000: an int would see 0 and less.
        Runs.says(words, """
            wave 0: 0 65536 0, 1 1000000 -1000000, 2 5099 0, 3 5050 4, 4 5040 312
            take(0, 0, 1, 1) = 5
            take(0, 0, 0, 100000) = 5
            take(0, 0, 1, 100000) = 4
            grain(0, 0) = 255
            grain(0, 1) = 255
            grain(0, 2) = 255
            grain(0, 3) = 255
            grain(0, 4) = 254
            """);
        Runs.says("A PLATE becomes a TAKE of two WAVES with a STEP: how many GRAINS are 255. BAD.", """
            wave 0: all 16 0
            take(5, 0, 1, 1) = 16
            take(5, 0, 1, 2) = 0
            take(5, 1, 1, 1) = 0
            take(5, 0, 0, 4) = 16
            lose(5, 0) = 255
            lose(5, 15) = 255
            count(5) = 1
            take(5, 0, 0, 4) = 16
            grain(5, 0) = 255
            grain(5, 15) = 255
            count(5) = 0
            run "dim 0 3 3;dim 0 0 0;" = 2
            grain(5, 15) = 255
            take(5, 0, 0, 4) = 14
            grain(5, 15) = 0
            """);
    }

    private static void takeRefused() {
        Runs.says("how many GRAINS are 255. BAD.", """
            run "point 0 0 0 3 0;" = 1
            take(0, 0, 1, 2) = 0
            take(-1, 0, 0, 1) = BAD
            take(6, 0, 0, 1) = BAD
            take(MIN, 0, 0, 1) = BAD
            take(MAX, 0, 0, 1) = BAD
            take(0, -1, 0, 1) = BAD
            take(0, 8, 0, 1) = BAD
            take(0, MIN, 0, 1) = BAD
            take(0, 0, -1, 1) = BAD
            take(0, 0, 8, 1) = BAD
            take(0, 0, MAX, 1) = BAD
            take(0, 0, 0, 0) = BAD
            take(0, 0, 0, -1) = BAD
            take(0, 0, 0, 100001) = BAD
            take(0, 0, 0, MIN) = BAD
            take(0, 0, 0, MAX) = BAD
            take(1, 0, 0, 0) = BAD
            count(2) = 1
            take(5, 7, 7, 100000) = 0
            take(0, 0, 0, 1) = 0
            """);
    }

    private static void lose() {
        Runs.says("A GRAIN is LOST: what it was (NONE: it was LOST).", """
            wave 0: 0 16 0, 15 3 0
            take(0, 0, 1, 1) = 1
            take(1, 0, 1, 1) = 1
            lose(0, 0) = 255
            lose(0, 0) = NONE
            status() = 0
            lose(0, 15) = 9
            lose(0, 1) = 0
            lose(0, 1) = NONE
            grain(0, 0) = NONE
            grain(0, 15) = NONE
            grain(0, 2) = 0
            grain(0, -1) = 1
            grain(1, 0) = 255
            """);
        Runs.says("BAD: PLATE, place; NULL.", """
            take(0, 0, 0, 1) = 0
            take(5, 0, 0, 1) = 0
            lose(-1, 0) = BAD
            lose(6, 0) = BAD
            lose(MIN, 0) = BAD
            lose(MAX, 0) = BAD
            lose(0, -1) = BAD
            lose(0, 16) = BAD
            lose(0, NONE) = BAD
            lose(0, MIN) = BAD
            lose(0, MAX) = BAD
            lose(1, 0) = NULL
            status() = 1
            lose(5, 15) = 0
            status() = 0
            count(5) = 1
            """);
    }

    private static void grain() {
        Runs.says("GRAIN at a place (0 to 15; NONE: LOST); STEP (place = -1).", """
            wave 0: 0 6 0, 15 9 0
            take(3, 0, 1, 3) = 0
            grain(3, 0) = 12
            grain(3, 15) = 27
            grain(3, 1) = 0
            grain(3, -1) = 3
            lose(3, 15) = 27
            grain(3, 15) = NONE
            grain(3, -1) = 3
            """);
        Runs.says("STEP (place = -1). BAD: PLATE, place; NULL.", """
            take(0, 0, 0, 1) = 0
            take(5, 0, 0, 1) = 0
            grain(-1, 0) = BAD
            grain(6, 0) = BAD
            grain(MIN, 0) = BAD
            grain(MAX, 0) = BAD
            grain(0, -2) = BAD
            grain(0, 16) = BAD
            grain(0, NONE) = BAD
            grain(0, MIN) = BAD
            grain(0, MAX) = BAD
            grain(1, 0) = NULL
            status() = 1
            grain(1, -1) = NULL
            grain(5, -1) = 1
            status() = 0
            """);
    }

    private static void read() {
        Runs.says("A plate SENDS, read with a WAVE: at each place GRAIN times STEP times the NUMBER there (0 where LOST).", """
            wave 0: 0 3 0, 1 0 4, 2 5 0, 15 1 1
            wave 1: all 2 -1
            take(0, 0, 2, 2) = 0
            lose(0, 2) = 12
            read(0, 1, 3) = 1
            number(3, 0) = 16 -8
            number(3, 1) = 32 -16
            number(3, 2) = 0 0
            number(3, 3) = 0 0
            number(3, 15) = 4 -2
            """);
        Runs.says("A WAVE becomes what a PLATE SENDS, read with a WAVE (it may be the same one): 1.", """
            wave 0: 0 3 0, 15 0 -5
            take(5, 0, 1, 1) = 0
            read(5, 0, 7) = 1
            number(7, 0) = 27 0
            number(7, 15) = 0 -125
            number(0, 15) = 0 -5
            read(5, 7, 7) = 1
            number(7, 0) = 243 0
            number(7, 15) = 0 -3125
            read(5, 1, 7) = 1
            even(7) = 0 0
            """);
        // LOST grains send nothing, even where the NUMBER is as great as may be.
        Runs.says("(0 where LOST)", """
            wave 0: all 1000000 -1000000
            take(0, 0, 0, 100000) = 16
            """ + Runs.each(0, 15, "lose(0, #) = 255") + """
            read(0, 0, 0) = 1
            even(0) = 0 0
            """);
    }

    private static void readRefused() {
        Runs.says("read with a WAVE (it may be the same one): 1. BAD; NULL; then FULL.", """
            run "point 7 0 0 3 0;" = 1
            take(0, 7, 1, 1) = 0
            take(5, 7, 1, 1) = 0
            read(-1, 0, 0) = BAD
            read(6, 0, 0) = BAD
            read(MAX, 0, 0) = BAD
            read(0, -1, 0) = BAD
            read(0, 8, 0) = BAD
            read(0, MIN, 0) = BAD
            read(0, 0, -1) = BAD
            read(0, 0, 8) = BAD
            read(0, 0, MAX) = BAD
            read(1, 7, 7) = NULL
            status() = 1
            read(5, 7, 7) = 1
            status() = 0
            """);
        Runs.says("BAD; NULL; then FULL.", """
            wave 0: 15 1000 1
            wave 1: 15 0 -1, 0 1000000 1000000
            wave 2: 3 3 3
            take(0, 0, 4, 9901) = 0
            kind(1) = NULL
            read(0, 1, 2) = FULL
            status() = 1
            read(0, 1, 1) = FULL
            number(2, 3) = 3 3
            number(1, 15) = 0 -1
            take(0, 0, 4, 10000) = 0
            read(0, 1, 2) = 1
            number(2, 15) = 0 -1000000
            number(2, 0) = 0 0
            """);
    }

    private static void parts() {
        String waves = """
            wave 0: 0 2 3, 15 0 -2
            wave 1: 0 1 -2, 15 3 0, 7 1 1
            """;
        Runs.says("FOUR PARTS of two WAVES o, r: what an endless fine plate sends, read with r: 0: BRIGHT of r times r,", waves + """
            parts(0, 1, 0, 2) = 1
            number(2, 0) = 5 -10
            number(2, 15) = 27 0
            number(2, 7) = 2 2
            number(2, 1) = 0 0
            """);
        Runs.says("1: BRIGHT of o times r,", waves + """
            parts(0, 1, 1, 2) = 1
            number(2, 0) = 13 -26
            number(2, 15) = 12 0
            number(2, 7) = 0 0
            """);
        Runs.says("2: BRIGHT of r times o,", waves + """
            parts(0, 1, 2, 2) = 1
            number(2, 0) = 10 15
            number(2, 15) = 0 -18
            number(2, 7) = 0 0
            """);
        Runs.says("3: r times r times o turned about.", waves + """
            parts(0, 1, 3, 2) = 1
            number(2, 0) = -18 1
            number(2, 15) = 0 18
            number(2, 7) = 0 0
            """);
        for (int k = 0; k < 4; k++) {
            String[] due = {"5 -10", "13 -26", "10 15", "-18 1"};
            for (int to = 0; to < 2; to++) {
                Runs.says("A WAVE becomes one of FOUR PARTS (0 to 3) of o, r (it may be one of these): 1.",
                    waves + String.format("parts(0, 1, %d, %d) = 1%nnumber(%d, 0) = %s", k, to, to, due[k]));
            }
        }
        Runs.says("(it may be one of these)", "wave 7: 15 -2 1\nparts(7, 7, 3, 7) = 1\nnumber(7, 15) = -10 5\n");
    }

    private static void partsRefused() {
        Runs.says("one of FOUR PARTS (0 to 3) of o, r (it may be one of these): 1. BAD; FULL.", """
            run "point 0 0 0 3 0;point 7 0 0 4 1;" = 2
            parts(-1, 0, 0, 0) = BAD
            parts(8, 0, 0, 0) = BAD
            parts(MIN, 0, 0, 0) = BAD
            parts(0, -1, 0, 0) = BAD
            parts(0, 8, 0, 0) = BAD
            parts(0, MAX, 0, 0) = BAD
            parts(0, 0, -1, 0) = BAD
            parts(0, 0, 4, 0) = BAD
            parts(0, 0, MIN, 0) = BAD
            parts(0, 0, MAX, 0) = BAD
            parts(0, 0, 0, -1) = BAD
            parts(0, 0, 0, 8) = BAD
            parts(0, 0, 0, MAX) = BAD
            parts(7, 7, 3, 7) = 1
            number(7, 0) = 0 64
            wave 7: 0 100 1
            kind(0) = NULL
            parts(7, 7, 0, 0) = FULL
            status() = 1
            parts(7, 7, 1, 7) = FULL
            parts(7, 7, 2, 0) = FULL
            parts(7, 7, 3, 7) = FULL
            number(0, 0) = 3 0
            """);
    }

    private static void off() {
        String takes = """
            wave 0: 1 3 2, 15 0 -4
            wave 1: all 4 0
            wave 2: all 0 4
            wave 3: all -4 0
            wave 4: all 0 -4
            """;
        String words = "TWIN OFF: from TAKES of o and r with r by TURNS 0, 1, 2, 3 (four PLATES of one STEP, no GRAIN LOST):";
        Runs.says(words, takes + """
            take(0, 0, 1, 1) = 0
            take(1, 0, 2, 1) = 0
            take(2, 0, 3, 1) = 0
            take(3, 0, 4, 1) = 0
            off(0, 5) = 1
            number(5, 1) = 48 32
            number(5, 15) = 0 -64
            number(5, 0) = 0 0
            """);
        // 53, 45, 5, 13 by 3 are 17, 15, 1, 4: both differences are taken ahead of the STEP.
        Runs.says("at each place (GRAIN of the first less that of the third) STEP,"
            + " and (that of the second less that of the fourth) STEP, as RE and IM.", takes + """
            take(2, 0, 1, 3) = 0
            take(3, 0, 2, 3) = 0
            take(4, 0, 3, 3) = 0
            take(5, 0, 4, 3) = 0
            off(2, 7) = 1
            number(7, 1) = 48 33
            number(7, 0) = 0 0
            """);
        Runs.says("A WAVE becomes what TWIN OFF gives of PLATES p, p + 1, p + 2, p + 3: 1.", """
            wave 0: 0 1 0
            wave 1: 0 2 0
            wave 2: 0 3 0
            take(0, 0, 7, 1) = 0
            take(1, 1, 7, 1) = 0
            take(2, 7, 7, 1) = 0
            take(3, 7, 7, 1) = 0
            take(4, 2, 7, 1) = 0
            take(5, 0, 7, 1) = 0
            off(0, 3) = 1
            number(3, 0) = 1 4
            off(1, 3) = 1
            number(3, 0) = 4 -9
            off(2, 3) = 1
            number(3, 0) = -9 -1
            off(3, 3) = BAD
            off(2, 0) = 1
            number(0, 0) = -9 -1
            """);
    }

    /** Lines that take the plates from first to last of nothing with a STEP, but for one that is left out. */
    private static String takesBut(int first, int last, int out) {
        StringBuilder lines = new StringBuilder();
        for (int p = first; p <= last; p++) {
            lines.append(p == out ? "" : "take(" + p + ", 0, 0, 5)\n");
        }
        return lines.toString();
    }

    private static void offNull() {
        for (int p = 0; p < 3; p++) {
            for (int out = p; out < p + 4; out++) {
                Runs.says("p + 3: 1. BAD (p 0 to 2); NULL;", takesBut(0, 5, out) + "run \"point 4 0 0 2 0;\" = 1\n"
                    + "off(" + p + ", 4) = NULL\nstatus() = 1\nnumber(4, 0) = 2 0\n");
            }
            Runs.says("p + 3: 1. BAD (p 0 to 2); NULL;", takesBut(p, p + 3, -1) + "off(" + p + ", 4) = 1\n");
        }
    }

    private static void offState() {
        for (int odd = 0; odd < 4; odd++) {
            Runs.says("then STATE: a GRAIN is LOST,", takesBut(0, 3, -1) + "run \"point 4 0 0 2 0;\" = 1\n"
                + "lose(" + odd + ", 0) = 0\ndrop(0) = NULL\noff(0, 4) = STATE\nstatus() = 1\n"
                + takesBut(0, 3, -1) + "off(0, 4) = 1\nlose(" + odd + ", 15) = 0\noff(0, 4) = STATE\n");
            Runs.says("or STEPS are unlike;", takesBut(0, 3, odd) + "run \"point 4 0 0 2 0;\" = 1\n"
                + "take(" + odd + ", 0, 0, 6) = 0\noff(0, 4) = STATE\n"
                + "take(" + odd + ", 0, 0, 4) = 0\noff(0, 4) = STATE\n"
                + "take(" + odd + ", 0, 0, 5) = 0\noff(0, 4) = 1\neven(4) = 0 0\n");
        }
    }

    private static void offRefused() {
        Runs.says("BAD (p 0 to 2); NULL; then STATE", takesBut(0, 5, -1) + """
            off(-1, 0) = BAD
            off(3, 0) = BAD
            off(5, 0) = BAD
            off(MIN, 0) = BAD
            off(MAX, 0) = BAD
            off(0, -1) = BAD
            off(0, 8) = BAD
            off(0, MIN) = BAD
            off(0, MAX) = BAD
            off(0, 0) = 1
            off(2, 7) = 1
            """);
        Runs.says("STEPS are unlike; FULL.", """
            wave 0: 15 1000 1
            wave 5: 3 3 3
            take(0, 1, 1, 9901) = 0
            take(1, 0, 1, 9901) = 0
            take(2, 1, 1, 9901) = 0
            take(3, 1, 1, 9901) = 0
            kind(4) = NULL
            off(0, 5) = FULL
            status() = 1
            number(5, 3) = 3 3
            take(3, 0, 1, 9901) = 0
            off(0, 5) = 1
            even(5) = 0 0
            """);
    }

    private static void lack() {
        String words = "LACK of a PLATE, read with a WAVE, beside another PLATE:"
            + " over all places how far GRAIN times STEP is from that of the other one";
        String plates = """
            wave 0: 0 7 0, 1 0 5, 15 1 0
            wave 1: 0 -2 0, 1 1 -3, 15 0 0
            take(0, 0, 2, 1) = 0
            take(1, 0, 2, 10) = 0
            """;
        // 49 beside 40, with 2; 25 beside 20, with 1 and 3; 1 beside 0, with 0.
        Runs.says(words, plates + """
            lack(0, 1, 1) = 38
            lack(1, 0, 1) = 38
            lack(0, 0, 1) = 0
            lack(0, 1, 2) = 0
            """);
        Runs.says("(LOST: 0)", plates + """
            lose(1, 0) = 4
            lack(0, 1, 1) = 118
            lack(1, 0, 1) = 118
            lose(0, 0) = 49
            lack(0, 1, 1) = 20
            lose(0, 1) = 25
            lack(0, 1, 1) = 80
            """);
        Runs.says("times the sizes of RE and IM there together, added.", """
            wave 0: all 1000000 -1000000
            take(0, 0, 0, 100000) = 16
            take(1, 1, 1, 1) = 0
            lack(0, 1, 0) = 816000000000000
            lack(1, 0, 0) = 816000000000000
            wave 0: 0 -3 -4, 15 5 -6
            lack(0, 1, 0) = 459000000
            """);
    }

    private static void lackRefused() {
        Runs.says("LACK of a PLATE beside another one, read with a WAVE. BAD as a long; NULL as a long.", """
            take(0, 0, 0, 1) = 0
            take(5, 0, 0, 1) = 0
            lack(-1, 0, 0) = BAD
            lack(6, 0, 0) = BAD
            lack(MIN, 0, 0) = BAD
            lack(0, -1, 0) = BAD
            lack(0, 6, 0) = BAD
            lack(0, MAX, 0) = BAD
            lack(0, 0, -1) = BAD
            lack(0, 0, 8) = BAD
            lack(0, 0, MAX) = BAD
            lack(1, 0, 0) = NULL
            status() = 1
            lack(0, 1, 0) = NULL
            lack(1, 1, 0) = NULL
            lack(0, 5, 7) = 0
            status() = 0
            lack(5, 0, 0) = 0
            """);
    }
}
