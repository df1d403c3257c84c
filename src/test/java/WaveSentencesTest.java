/** The sentences of the document on NUMBERS and WAVES, and of promises 9 to 13. */
public final class WaveSentencesTest {
    public static void main(String[] args) {
        numbers();
        waves();
        wayThere();
        wayBack();
        wayRefused();
        partsOfNumbers();
        lay();
        layRefused();
        part();
        bright();
        moved();
        movedRefused();
        Check.finish();
    }

    private static void numbers() {
        Runs.says("A NUMBER has two whole parts, RE and IM.", """
            wave 0: 3 1000000 -1000000
            part(0, 3, 0) = 1000000
            part(0, 3, 1) = -1000000
            """);
        Runs.says("A TURN t (0 to 3) of a NUMBER: 0 RE, IM; 1 -IM, RE; 2 -RE, -IM; 3 IM, -RE.", """
            wave 0: 0 7 2, 1 7 2, 2 7 2, 3 7 2
            run "turn 0 0 0 0;turn 0 1 0 1;turn 0 2 0 2;turn 0 3 0 3;" = 4
            number(0, 0) = 7 2
            number(0, 1) = -2 7
            number(0, 2) = -7 -2
            number(0, 3) = 2 -7
            fault "turn 0 0 0 4;" = 11 2
            """);
        // r r and o turned about, both not whole turns: (2 + i)(2 + i)(1 - 3i).
        Runs.says("Of two NUMBERS a, b: a b has RE of RE RE less IM IM, IM of RE IM and IM RE; a turned about has -IM.", """
            wave 0: 0 1 3
            wave 1: 0 2 1
            parts(0, 1, 3, 2) = 1
            number(2, 0) = 15 -5
            """);
        Runs.says("BRIGHT of a NUMBER: RE RE and IM IM.", """
            wave 0: 0 3 -4, 1 -3 0, 2 0 -1, 4 -1000000 1000000
            bright(0, 0) = 25
            bright(0, 1) = 9
            bright(0, 2) = 1
            bright(0, 3) = 0
            bright(0, 4) = 2000000000000
            """);
    }

    private static void waves() {
        String words = "WAVES 0 .. 7: on each of 16 PLACES x + 4 y (x, y 0 to 3) a NUMBER, 0 at first.";
        Runs.says(words, """
            count(1) = 0
            part(0, 0, 0) = 0
            part(7, 15, 1) = 0
            part(-1, 0, 0) = BAD
            part(8, 0, 0) = BAD
            part(0, -1, 0) = BAD
            part(0, 16, 0) = BAD
            run "point 0 1 0 1 0;point 0 0 1 2 0;point 0 3 0 3 0;point 0 0 3 4 0;point 7 3 3 5 0;" = 5
            number(0, 1) = 1 0
            number(0, 4) = 2 0
            number(0, 3) = 3 0
            number(0, 12) = 4 0
            number(7, 15) = 5 0
            number(0, 15) = 0 0
            """);
        for (int wave = 0; wave < 8; wave++) {
            Runs.says(words, "even(" + wave + ") = 0 0");
        }
    }

    private static void wayThere() {
        String words = "WAY of a WAVE: at u, v the sum over all x, y of its NUMBERS, each by TURN (u x + v y) modulo 4.";
        Runs.says(words, """
            run "point 0 3 0 1 0;point 1 0 3 1 0;point 2 3 3 1 1;point 3 0 0 5 2;" = 4
            way(0, 0) = 1
            number(0, 0) = 1 0
            number(0, 1) = 0 -1
            number(0, 2) = -1 0
            number(0, 3) = 0 1
            number(0, 13) = 0 -1
            way(1, 0) = 1
            number(1, 4) = 0 -1
            number(1, 8) = -1 0
            number(1, 12) = 0 1
            number(1, 7) = 0 -1
            way(2, 0) = 1
            number(2, 0) = 0 1
            number(2, 15) = 0 -1
            number(2, 6) = -1 0
            way(3, 0) = 1
            even(3) = -5 0
            way(4, 0) = 1
            even(4) = 0 0
            """);
        // 16 at u = 1, v = 3, as the plane leans by 3, 1; nothing elsewhere.
        Runs.says(words, """
            run "plane 0 3 1 1 1;" = 1
            way(0, 0) = 1
            number(0, 13) = 0 16
            bright(0, NONE) = 256
            """);
    }

    private static void wayBack() {
        String words = "BACK: at x, y the sum over all u, v, each by TURN (4 - (u x + v y) modulo 4) modulo 4, all parts by 16;";
        Runs.says(words, """
            run "point 0 3 0 16 0;point 1 0 3 32 0;point 2 3 3 48 1;" = 3
            way(0, 1) = 1
            number(0, 0) = 1 0
            number(0, 1) = 0 1
            number(0, 2) = -1 0
            number(0, 3) = 0 -1
            way(1, 1) = 1
            number(1, 4) = 0 2
            number(1, 12) = 0 -2
            way(2, 1) = 1
            number(2, 0) = 0 3
            number(2, 1) = -3 0
            number(2, 15) = 0 -3
            way(3, 1) = 1
            even(3) = 0 0
            """);
        Runs.says(words, """
            run "point 0 1 2 7 1;point 0 3 3 9 2;point 0 0 0 1 3;" = 3
            way(0, 0) = 1
            way(0, 1) = 1
            number(0, 9) = 0 7
            number(0, 15) = -9 0
            number(0, 0) = 0 -1
            bright(0, NONE) = 131
            """);
        Runs.says("STATE, if some part does not go up in 16.", """
            wave 0: 0 15 0
            way(0, 1) = STATE
            wave 0: 0 17 0
            way(0, 1) = STATE
            wave 0: 0 8 0
            way(0, 1) = STATE
            wave 0: 0 -8 0
            way(0, 1) = STATE
            wave 0: 0 -1 0
            way(0, 1) = STATE
            wave 0: 0 16 8
            way(0, 1) = STATE
            wave 0: 0 0 -15
            way(0, 1) = STATE
            number(0, 0) = 0 -15
            wave 0: 0 -16 16
            way(0, 1) = 1
            even(0) = -1 1
            wave 0: 0 16 -32
            way(0, 1) = 1
            even(0) = 1 -2
            """);
        // At 0, 0 both sum to 16; at u = 1 they do not.
        Runs.says("STATE, if some part does not go up in 16.", """
            wave 0: 0 8 0, 1 8 0
            way(0, 1) = STATE
            number(0, 0) = 8 0
            wave 0: 0 8 0, 2 8 0
            way(0, 1) = 1
            number(0, 0) = 1 0
            number(0, 1) = 0 0
            wave 0: all 1000000 -1000000
            way(0, 1) = 1
            number(0, 0) = 1000000 -1000000
            bright(0, NONE) = 2000000000000
            """);
        // 8 come together at 13 and at 15, and nothing elsewhere; 16, when the wave is added to itself.
        Runs.says("STATE, if some part does not go up in 16.", """
            wave 0: 0 1 0, 4 0 -1, 8 -1 0, 12 0 1, 2 -1 0, 6 0 1, 10 1 0, 14 0 -1
            way(0, 1) = STATE
            run "add 0 0;" = 1
            way(0, 1) = 1
            number(0, 13) = 1 0
            number(0, 15) = 1 0
            bright(0, NONE) = 2
            """);
    }

    private static void wayRefused() {
        Runs.says("A WAVE becomes its WAY (how = 0), BACK (1): 1. BAD; STATE; FULL.", """
            run "point 0 1 0 16 0;point 7 1 0 16 0;" = 2
            way(-1, 0) = BAD
            way(8, 0) = BAD
            way(MIN, 0) = BAD
            way(MAX, 1) = BAD
            way(0, -1) = BAD
            way(0, 2) = BAD
            way(0, MIN) = BAD
            way(0, MAX) = BAD
            way(0, 0) = 1
            way(7, 1) = 1
            number(0, 1) = 0 16
            number(7, 1) = 0 -1
            way(7, 0) = 1
            way(7, 0) = 1
            """);
    }

    /** What each way of making a WAVE may make at most, and one more. */
    private static void partsOfNumbers() {
        String words = "A part may be -1000000 to 1000000: an act that would make one beyond that changes nothing (FULL).";
        for (String pair : new String[] {"1000000 0, 5 1 0", "-1000000 0, 5 -1 0", "0 1000000, 5 0 1", "0 -1000000, 5 0 -1"}) {
            Runs.says(words, "wave 0: 0 " + pair + "\nway(0, 0) = FULL\n");
            Runs.says(words, "wave 0: 0 " + pair.replace("1000000", "999999") + "\nway(0, 0) = 1\n");
        }
        // Beyond only at u = 3, where i is turned to 1.
        Runs.says(words, """
            wave 0: 0 1000000 0, 1 0 1
            way(0, 0) = FULL
            number(0, 0) = 1000000 0
            number(0, 1) = 0 1
            """);
        // 101 times 9901 is 1000001, and so is the brightness of 1000 + i; 100 times 10000 is 1000000.
        for (String one : new String[] {"1 0", "-1 0", "0 1", "0 -1"}) {
            Runs.says(words, String.format("""
                wave 0: 15 1000 1
                wave 1: 15 %s, 3 0 0
                wave 3: 15 4 4
                take(0, 0, 2, 9901) = 0
                grain(0, 15) = 101
                take(1, 0, 2, 10000) = 0
                grain(1, 15) = 100
                read(0, 1, 3) = FULL
                parts(0, 1, 1, 3) = FULL
                parts(1, 0, 2, 3) = FULL
                number(3, 15) = 4 4
                read(1, 1, 3) = 1
                bright(3, 15) = 1000000000000
                """, one));
        }
        partsOfFourParts(words);
        partsOfTwinOff(words);
    }

    private static void partsOfFourParts(String words) {
        Runs.says(words, """
            wave 0: 0 100 0, 1 0 -100
            parts(1, 0, 0, 2) = 1
            number(2, 0) = 1000000 0
            number(2, 1) = 0 -1000000
            wave 0: 0 100 1
            parts(1, 0, 0, 2) = FULL
            wave 0: 0 -1 100
            parts(1, 0, 0, 2) = FULL
            wave 0: 0 1000 0
            wave 1: 0 1 0, 15 2 0
            parts(0, 1, 1, 3) = 1
            number(3, 0) = 1000000 0
            parts(1, 0, 2, 3) = 1
            number(3, 0) = 1000000 0
            parts(1, 0, 3, 3) = 1
            number(3, 0) = 1000000 0
            """);
        // (10 + i)(10 + i)(10119 + 89i) has RE of 1000001; (10119, 90) and its turns stay below it.
        Runs.says(words, """
            wave 0: 7 10119 -89
            wave 1: 7 10 1
            wave 2: 7 5 6
            parts(0, 1, 3, 2) = FULL
            run "turn 0 3 1 1;" = 1
            parts(0, 1, 3, 2) = FULL
            run "turn 0 3 1 1;" = 1
            parts(0, 1, 3, 2) = FULL
            run "turn 0 3 1 1;" = 1
            parts(0, 1, 3, 2) = FULL
            number(2, 7) = 5 6
            wave 0: 7 10119 -90
            parts(0, 1, 3, 2) = 1
            number(2, 7) = 999981 211290
            """);
        Runs.says(words, """
            wave 0: 15 1000000 1000000
            wave 1: 15 1000000 -1000000
            parts(0, 1, 0, 0) = FULL
            parts(0, 1, 1, 0) = FULL
            parts(0, 1, 2, 0) = FULL
            parts(0, 1, 3, 0) = FULL
            parts(0, 0, 3, 0) = FULL
            """);
    }

    private static void partsOfTwinOff(String words) {
        for (int bright = 0; bright < 4; bright++) {
            StringBuilder takes = new StringBuilder("wave 0: 15 1000 1\nwave 6: 15 3 3\n");
            StringBuilder most = new StringBuilder();
            for (int p = 0; p < 4; p++) {
                takes.append("take(").append(p).append(p == bright ? ", 0, 1, 9901)\n" : ", 1, 1, 9901)\n");
                most.append("take(").append(p).append(p == bright ? ", 0, 1, 10000)\n" : ", 1, 1, 10000)\n");
            }
            String[] numbers = {"1000000 0", "0 1000000", "-1000000 0", "0 -1000000"};
            Runs.says(words, takes + "off(0, 6) = FULL\nnumber(6, 15) = 3 3\n" + most + "off(0, 6) = 1\nnumber(6, 15) = "
                + numbers[bright]);
        }
    }

    private static void lay() {
        Runs.says("A WAVE becomes 16 NUMBERS, RE and IM by turns, ITEMS of a SHEET from i on: 1.",
            "sheet(7, 0, 64) = 64\n" + Runs.each(0, 63, "set(7, #, #)") + """
            lay(0, 7, 0) = 1
            number(0, 0) = 0 1
            number(0, 1) = 2 3
            number(0, 15) = 30 31
            lay(7, 7, 32) = 1
            number(7, 0) = 32 33
            number(7, 15) = 62 63
            lay(7, 7, 1) = 1
            number(7, 0) = 1 2
            number(7, 15) = 31 32
            number(0, 15) = 30 31
            lay(0, 7, 33) = PLACE
            number(0, 0) = 0 1
            """);
    }

    private static void layRefused() {
        String words = "BAD: WAVE, SHEET; NULL; PLACE; then BAD: an ITEM is beyond 1000000.";
        Runs.says(words, """
            sheet(0, 2, 32) = 32
            sheet(7, 2, 32) = 32
            set(0, 0, 9) = 9
            lay(-1, 0, 0) = BAD
            lay(8, 0, 0) = BAD
            lay(MIN, 0, 0) = BAD
            lay(MAX, 0, 0) = BAD
            lay(0, -1, 0) = BAD
            lay(0, 8, 0) = BAD
            lay(0, MIN, 0) = BAD
            lay(0, MAX, 0) = BAD
            lay(7, 7, 0) = 1
            """);
        Runs.says(words, """
            lay(0, 0, 0) = NULL
            status() = 1
            sheet(0, 2, 31) = 31
            lay(0, 0, 0) = PLACE
            status() = 2
            sheet(0, 2, 0) = 0
            lay(0, 0, 0) = PLACE
            sheet(0, 2, 32) = 32
            set(0, 0, 5) = 5
            lay(0, 0, -1) = PLACE
            lay(0, 0, 1) = PLACE
            lay(0, 0, 32) = PLACE
            lay(0, 0, MIN) = PLACE
            lay(0, 0, MAX) = PLACE
            lay(0, 0, 0) = 1
            status() = 0
            """);
        for (int item = 0; item < 32; item++) {
            String line = "set(0, " + item + ", ";
            Runs.says(words, "sheet(0, 2, 32)\nset(0, 3, 5)\nlay(0, 0, 0)\nset(0, 3, 6)\n"
                + line + "1000001) = 1000001\nlay(0, 0, 0) = BAD\nstatus() = 0\n"
                + line + "-1000001) = -1000001\nlay(0, 0, 0) = BAD\n"
                + line + "MAX) = MAX\nlay(0, 0, 0) = BAD\n" + line + "MIN) = MIN\nlay(0, 0, 0) = BAD\n"
                + "number(0, 1) = 0 5\n" + line + "1000000) = 1000000\nlay(0, 0, 0) = 1\n"
                + line + "-1000000) = -1000000\nlay(0, 0, 0) = 1\n");
        }
        // ITEMS ahead of the first and behind the last of the 32 are not looked at.
        Runs.says(words, """
            sheet(0, 2, 34) = 34
            set(0, 0, 1000001) = 1000001
            set(0, 33, -1000001) = -1000001
            lay(0, 0, 1) = 1
            lay(0, 0, 0) = BAD
            lay(0, 0, 2) = BAD
            """);
    }

    private static void part() {
        Runs.says("RE (what = 0), IM (1) of a WAVE's NUMBER at a place (0 to 15). BAD.", """
            wave 0: 0 1 2, 15 3 4
            wave 7: 0 5 6, 15 7 8
            part(0, 0, 0) = 1
            part(0, 0, 1) = 2
            part(0, 15, 0) = 3
            part(0, 15, 1) = 4
            part(7, 0, 0) = 5
            part(7, 15, 1) = 8
            part(-1, 0, 0) = BAD
            part(8, 0, 0) = BAD
            part(MIN, 0, 0) = BAD
            part(MAX, 0, 0) = BAD
            part(0, -1, 0) = BAD
            part(0, 16, 0) = BAD
            part(0, NONE, 0) = BAD
            part(0, MIN, 0) = BAD
            part(0, MAX, 0) = BAD
            part(0, 0, -1) = BAD
            part(0, 0, 2) = BAD
            part(0, 0, MIN) = BAD
            part(0, 0, MAX) = BAD
            """);
    }

    private static void bright() {
        Runs.says("BRIGHT at a place; of place = NONE all, added.", """
            wave 0: 0 1 2, 15 -3 4
            wave 7: 15 1000 -1000
            bright(0, 0) = 5
            bright(0, 15) = 25
            bright(0, 7) = 0
            bright(0, NONE) = 30
            bright(7, 15) = 2000000
            bright(7, NONE) = 2000000
            bright(1, NONE) = 0
            """);
        Runs.says("BRIGHT at a place; of place = NONE all, added.", """
            wave 0: all 1000000 -1000000
            bright(0, 15) = 2000000000000
            bright(0, NONE) = 32000000000000
            """);
        Runs.says("all, added. BAD as a long.", """
            wave 0: 0 1 2
            bright(-1, 0) = BAD
            bright(8, 0) = BAD
            bright(8, NONE) = BAD
            bright(-1, NONE) = BAD
            bright(MIN, 0) = BAD
            bright(MAX, 0) = BAD
            bright(0, -1) = BAD
            bright(0, 16) = BAD
            bright(0, -1000001) = BAD
            bright(0, -999999) = BAD
            bright(0, MIN) = BAD
            bright(0, MAX) = BAD
            """);
    }

    private static void moved() {
        Runs.says("MOVED from a WAVE to another one, at a place: t, if BRIGHT of both is above 0,", """
            wave 0: 0 1 0, 15 0 2
            wave 1: 1 1 0, 15 0 2
            moved(0, 1, 0) = NONE
            moved(1, 0, 0) = NONE
            moved(0, 1, 1) = NONE
            moved(0, 1, 2) = NONE
            moved(0, 1, 15) = 0
            """);
        Runs.says("and the second is the first by TURN t,", """
            wave 0: 0 3 2, 1 3 2, 2 3 2, 3 3 2, 4 3 2, 5 3 2, 6 1 1
            wave 1: 0 3 2, 1 -2 3, 2 -3 -2, 3 2 -3, 4 2 3, 5 3 -2, 6 1 0
            moved(0, 1, 0) = 0
            moved(0, 1, 1) = 1
            moved(0, 1, 2) = 2
            moved(0, 1, 3) = 3
            moved(0, 1, 4) = NONE
            moved(0, 1, 5) = NONE
            moved(0, 1, 6) = NONE
            moved(1, 0, 1) = 3
            moved(1, 0, 3) = 1
            moved(0, 0, 0) = 0
            """);
        Runs.says("times a whole share above 0 of it (one is the other by TURN t times p by q, p, q above 0);", """
            wave 0: 0 4 6, 1 4 6, 2 1000000 999998, 3 1 0, 4 -7 0, 5 2 4
            wave 1: 0 6 9, 1 -9 6, 2 499999 -500000, 3 1000000 0, 4 0 3, 5 -1 -2
            moved(0, 1, 0) = 0
            moved(1, 0, 0) = 0
            moved(0, 1, 1) = 1
            moved(1, 0, 1) = 3
            moved(0, 1, 2) = 3
            moved(0, 1, 3) = 0
            moved(1, 0, 3) = 0
            moved(0, 1, 4) = 3
            moved(0, 1, 5) = 2
            """);
        // Beside each other by the least there is; and by 2 to the power 32, which an int would not see.
        Runs.says("OPEN (NONE) else.", """
            wave 0: 0 1000000 999999, 1 65536 0, 2 1000000 1, 3 1 1
            wave 1: 0 999999 999998, 1 1 65536, 2 1000000 0, 3 0 1
            moved(0, 1, 0) = NONE
            moved(0, 1, 1) = NONE
            moved(1, 0, 1) = NONE
            moved(0, 1, 2) = NONE
            moved(0, 1, 3) = NONE
            moved(2, 3, 0) = NONE
            """);
    }

    private static void movedRefused() {
        Runs.says("MOVED. BAD: WAVES, place; NONE: OPEN.", """
            wave 0: 0 1 0, 15 1 0
            wave 7: 0 0 1, 15 0 1
            moved(0, 7, 0) = 1
            moved(7, 0, 15) = 3
            moved(-1, 0, 0) = BAD
            moved(8, 0, 0) = BAD
            moved(MIN, 0, 0) = BAD
            moved(0, -1, 0) = BAD
            moved(0, 8, 0) = BAD
            moved(0, MAX, 0) = BAD
            moved(0, 7, -1) = BAD
            moved(0, 7, 16) = BAD
            moved(0, 7, NONE) = BAD
            moved(0, 7, MIN) = BAD
            moved(0, 7, MAX) = BAD
            moved(0, 7, 1) = NONE
            """);
    }
}
