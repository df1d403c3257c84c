/** The sentences of the document on SHEETS, and of promises 1 to 5. */
public final class SheetSentencesTest {
    public static void main(String[] args) {
        newObject();
        sheetsAtFirst();
        sheet();
        sheetRefused();
        setWithinItsLane();
        setRefused();
        copy();
        copyRefused();
        drop();
        Check.finish();
    }

    private static void newObject() {
        Runs.says("All as at first.", Runs.each(0, 7, "count(#) = 0") + Runs.each(0, 7, "drop(#) = NULL")
            + Runs.each(0, 7, "bright(#, NONE) = 0") + Runs.each(0, 5, "kind(#) = NULL") + """
            fault() = 0
            trace(0) = NONE
            run() = 0
            """);
        Runs.says("All as at first.", "status() = 0\ncount(7) = 0");
    }

    private static void sheetsAtFirst() {
        Runs.says("SHEETS 0 .. 7 are missing (at first), or have", """
            count(0) = 0
            """ + Runs.each(0, 7, "set(#, 0, 1) = NULL") + """
            drop(-1) = BAD
            drop(8) = BAD
            sheet(0, 0, 1) = 1
            sheet(7, 0, 1) = 1
            sheet(-1, 0, 1) = BAD
            sheet(8, 0, 1) = BAD
            count(0) = 2
            """);
        Runs.says("a LANE (0 bytes, 1 shorts, 2 ints)", """
            sheet(0, 0, 1) = 1
            set(0, 0, 70000) = 112
            sheet(1, 1, 1) = 1
            set(1, 0, 70000) = 4464
            sheet(2, 2, 1) = 1
            set(2, 0, 70000) = 70000
            """);
        Runs.says("and 0 to 64 ITEMS", """
            sheet(0, 2, 0) = 0
            count(0) = 1
            set(0, 0, 1) = PLACE
            sheet(0, 2, 1) = 1
            set(0, 0, 1) = 1
            set(0, 1, 1) = PLACE
            sheet(0, 2, 64) = 64
            set(0, 63, 1) = 1
            set(0, 64, 1) = PLACE
            """);
        for (int lane = 0; lane < 3; lane++) {
            Runs.says("0 to 64 ITEMS, 0 at first.", String.format("""
                sheet(5, %d, 64) = 64
                lay(0, 5, 0) = 1
                even(0) = 0 0
                lay(0, 5, 32) = 1
                even(0) = 0 0
                """, lane));
        }
    }

    private static void sheet() {
        String words = "A SHEET of a LANE with n ITEMS, in place of what is there: n.";
        Runs.says(words, """
            sheet(3, 2, 64) = 64
            set(3, 0, 100) = 100
            set(3, 31, 101) = 101
            set(3, 63, 102) = 102
            sheet(3, 1, 3) = 3
            set(3, 0, 40000) = -25536
            set(3, 2, 5) = 5
            set(3, 3, 5) = PLACE
            sheet(3, 2, 64) = 64
            count(0) = 1
            lay(0, 3, 0) = 1
            even(0) = 0 0
            lay(0, 3, 32) = 1
            even(0) = 0 0
            sheet(3, 0, 0) = 0
            drop(3) = 0
            """);
        Runs.says(words, """
            sheet(3, 2, 32) = 32
            set(3, 5, 9) = 9
            sheet(3, 2, 32) = 32
            lay(0, 3, 0) = 1
            even(0) = 0 0
            """);
    }

    private static void sheetRefused() {
        String words = "BAD: SHEET, LANE, n above 64; SIZE.";
        Runs.says(words, """
            sheet(0, 2, 3) = 3
            set(0, 2, 77) = 77
            sheet(-1, 0, 1) = BAD
            sheet(8, 0, 1) = BAD
            sheet(MIN, 0, 1) = BAD
            sheet(MAX, 0, 1) = BAD
            sheet(7, 0, 1) = 1
            """);
        Runs.says(words, """
            sheet(0, 2, 3) = 3
            set(0, 2, 77) = 77
            sheet(0, -1, 1) = BAD
            sheet(0, 3, 1) = BAD
            sheet(0, MIN, 1) = BAD
            sheet(0, MAX, 1) = BAD
            """);
        Runs.says(words, """
            sheet(0, 2, 3) = 3
            set(0, 2, 77) = 77
            sheet(0, 0, 65) = BAD
            sheet(0, 0, MAX) = BAD
            sheet(1, 0, 65) = BAD
            sheet(0, 0, 64) = 64
            """);
        Runs.says(words, """
            sheet(0, 2, 3) = 3
            set(0, 2, 77) = 77
            sheet(0, 0, -1) = SIZE
            status() = 4
            sheet(0, 0, MIN) = SIZE
            sheet(1, 0, -1) = SIZE
            count(0) = 1
            sheet(0, 0, 0) = 0
            status() = 0
            """);
    }

    private static void setWithinItsLane() {
        String words = "ITEM i becomes v, its lowest bits, as many as the LANE has: what it is then.";
        Runs.says(words, """
            sheet(0, 0, 32) = 32
            set(0, 0, 127) = 127
            set(0, 0, 128) = -128
            set(0, 0, -128) = -128
            set(0, 0, -129) = 127
            set(0, 0, 255) = -1
            set(0, 0, 256) = 0
            set(0, 0, 257) = 1
            set(0, 0, MAX) = -1
            set(0, 0, MIN) = 0
            set(0, 0, 384) = -128
            set(0, 31, 511) = -1
            lay(0, 0, 0) = 1
            number(0, 0) = -128 0
            number(0, 15) = 0 -1
            """);
        Runs.says(words, """
            sheet(0, 1, 32) = 32
            set(0, 0, 128) = 128
            set(0, 0, 32767) = 32767
            set(0, 0, 32768) = -32768
            set(0, 0, -32768) = -32768
            set(0, 0, -32769) = 32767
            set(0, 0, 65535) = -1
            set(0, 0, 65536) = 0
            set(0, 0, 65537) = 1
            set(0, 0, MAX) = -1
            set(0, 0, MIN) = 0
            set(0, 0, 98304) = -32768
            set(0, 31, 131071) = -1
            lay(0, 0, 0) = 1
            number(0, 0) = -32768 0
            number(0, 15) = 0 -1
            """);
        Runs.says(words, """
            sheet(0, 2, 32) = 32
            set(0, 0, 32768) = 32768
            set(0, 0, 65536) = 65536
            set(0, 0, MAX) = MAX
            set(0, 0, MIN) = MIN
            set(0, 31, -1) = -1
            set(0, 0, 1000000) = 1000000
            lay(0, 0, 0) = 1
            number(0, 0) = 1000000 0
            number(0, 1) = 0 0
            number(0, 15) = 0 -1
            """);
    }

    private static void setRefused() {
        String words = "BAD: SHEET; NULL; PLACE.";
        Runs.says(words, """
            sheet(0, 0, 1) = 1
            sheet(7, 0, 1) = 1
            set(0, 0, 5) = 5
            set(7, 0, 6) = 6
            set(-1, 0, 5) = BAD
            set(8, 0, 5) = BAD
            set(MIN, 0, 5) = BAD
            set(MAX, 0, 5) = BAD
            """);
        Runs.says(words, """
            set(0, 0, 5) = NULL
            status() = 1
            sheet(0, 0, 1) = 1
            drop(0) = 1
            set(0, 0, 5) = NULL
            """);
        Runs.says(words, """
            sheet(0, 0, 64) = 64
            set(0, 63, 5) = 5
            set(0, 0, 5) = 5
            set(0, -1, 6) = PLACE
            status() = 2
            set(0, 64, 6) = PLACE
            set(0, MIN, 6) = PLACE
            set(0, MAX, 6) = PLACE
            sheet(0, 0, 0) = 0
            set(0, 0, 6) = PLACE
            """);
    }

    private static void copy() {
        String words = "n ITEMS of a from i on come to b from j on, as they were ahead: n.";
        String numbered = "sheet(0, 2, 32)\n" + Runs.each(0, 31, "set(0, #, #)");
        Runs.says(words, numbered + """
            copy(0, 0, 0, 1, 31) = 31
            lay(0, 0, 0) = 1
            number(0, 0) = 0 0
            number(0, 1) = 1 2
            number(0, 15) = 29 30
            """);
        Runs.says(words, numbered + """
            copy(0, 1, 0, 0, 31) = 31
            lay(0, 0, 0) = 1
            number(0, 0) = 1 2
            number(0, 14) = 29 30
            number(0, 15) = 31 31
            """);
        Runs.says(words, numbered + """
            copy(0, 0, 0, 0, 32) = 32
            lay(0, 0, 0) = 1
            number(0, 0) = 0 1
            number(0, 15) = 30 31
            sheet(1, 2, 64) = 64
            copy(0, 30, 1, 62, 2) = 2
            copy(0, 0, 1, 32, 2) = 2
            lay(1, 1, 32) = 1
            number(1, 0) = 0 1
            number(1, 1) = 0 0
            number(1, 14) = 0 0
            number(1, 15) = 30 31
            lay(0, 0, 0) = 1
            number(0, 15) = 30 31
            """);
        Runs.says(words, """
            sheet(0, 1, 64) = 64
            sheet(7, 1, 64) = 64
            copy(0, 0, 7, 0, 64) = 64
            copy(0, 64, 7, 64, 0) = 0
            sheet(7, 1, 0) = 0
            copy(7, 0, 7, 0, 0) = 0
            copy(7, 0, 0, 0, 0) = 0
            status() = 0
            """);
        Runs.says(words, """
            sheet(0, 0, 2) = 2
            sheet(1, 0, 32) = 32
            set(0, 0, 200) = -56
            copy(0, 0, 1, 0, 1) = 1
            lay(0, 1, 0) = 1
            number(0, 0) = -56 0
            """);
    }

    private static void copyRefused() {
        Runs.says("BAD: SHEETS; NULL; STORE; PLACE", """
            sheet(0, 0, 1) = 1
            sheet(7, 0, 1) = 1
            set(0, 0, 9) = 9
            copy(-1, 0, 0, 0, 1) = BAD
            copy(8, 0, 0, 0, 1) = BAD
            copy(0, 0, -1, 0, 1) = BAD
            copy(0, 0, 8, 0, 1) = BAD
            copy(MAX, 0, MIN, 0, 1) = BAD
            copy(0, 0, 7, 0, 1) = 1
            """);
        Runs.says("BAD: SHEETS; NULL; STORE; PLACE", """
            sheet(0, 0, 1) = 1
            copy(0, 0, 1, 0, 1) = NULL
            status() = 1
            copy(1, 0, 0, 0, 0) = NULL
            copy(1, 0, 1, 0, 0) = NULL
            """);
        Runs.says("BAD: SHEETS; NULL; STORE; PLACE", """
            sheet(0, 0, 1) = 1
            sheet(1, 1, 1) = 1
            sheet(2, 2, 1) = 1
            set(0, 0, 5) = 5
            copy(0, 0, 1, 0, 1) = STORE
            status() = 5
            copy(0, 0, 2, 0, 1) = STORE
            copy(1, 0, 2, 0, 1) = STORE
            copy(2, 0, 0, 0, 0) = STORE
            """);
        String two = "sheet(0, 2, 33)\nsheet(1, 2, 40)\nset(0, 32, 5)\nset(1, 39, 6)\nset(0, 0, 7)\nset(1, 0, 8)\n";
        Runs.says("PLACE (i, j, n below 0, or beyond an end).", two + """
            copy(0, -1, 1, 0, 1) = PLACE
            status() = 2
            copy(0, -1, 1, 0, 0) = PLACE
            copy(0, MIN, 1, 0, 1) = PLACE
            copy(0, 0, 1, -1, 1) = PLACE
            copy(0, 0, 1, -1, 0) = PLACE
            copy(0, 0, 1, MIN, 1) = PLACE
            copy(0, 0, 1, 0, -1) = PLACE
            copy(0, 1, 1, 1, -1) = PLACE
            copy(0, 0, 1, 0, MIN) = PLACE
            copy(0, 0, 0, -1, 1) = PLACE
            """);
        Runs.says("PLACE (i, j, n below 0, or beyond an end).", two + """
            copy(0, 0, 1, 0, 34) = PLACE
            copy(0, 1, 1, 0, 33) = PLACE
            copy(0, 33, 1, 0, 1) = PLACE
            copy(0, 34, 1, 0, 0) = PLACE
            copy(0, MAX, 1, 0, 1) = PLACE
            copy(0, 1, 1, 0, MAX) = PLACE
            copy(1, 0, 0, 0, 34) = PLACE
            copy(1, 0, 0, 1, 33) = PLACE
            copy(1, 0, 0, 33, 1) = PLACE
            copy(1, 0, 0, 34, 0) = PLACE
            copy(1, 0, 0, MAX, 1) = PLACE
            copy(0, 0, 0, 1, 33) = PLACE
            copy(0, MAX, 1, MAX, MAX) = PLACE
            copy(0, 0, 1, 7, 33) = 33
            copy(0, 33, 1, 40, 0) = 0
            """);
    }

    private static void drop() {
        String words = "A SHEET is missing from now on: how many ITEMS it had.";
        Runs.says(words, """
            sheet(0, 2, 64) = 64
            sheet(7, 1, 0) = 0
            sheet(3, 0, 1) = 1
            set(0, 5, 9) = 9
            drop(0) = 64
            count(0) = 2
            drop(7) = 0
            drop(3) = 1
            count(0) = 0
            set(0, 5, 9) = NULL
            lay(0, 0, 0) = NULL
            copy(0, 0, 0, 0, 0) = NULL
            fits(0, 0, 0, 0) = NULL
            sheet(0, 2, 32) = 32
            lay(0, 0, 0) = 1
            even(0) = 0 0
            """);
        Runs.says("how many ITEMS it had. BAD; NULL.", """
            sheet(0, 2, 64) = 64
            sheet(7, 0, 1) = 1
            drop(-1) = BAD
            drop(8) = BAD
            drop(MIN) = BAD
            drop(MAX) = BAD
            drop(1) = NULL
            status() = 1
            drop(7) = 1
            status() = 0
            drop(7) = NULL
            """);
    }
}
