/** The sentences of the document on searches, and of promises 21 to 23; SearchesTest has them beside trying all. */
public final class SearchSentencesTest {
    public static void main(String[] args) {
        rows();
        fits();
        fitsRefused();
        marks();
        markRefused();
        aim();
        aimRefused();
        Check.finish();
    }

    /** Lines that make a sheet of the four numbers, behind and ahead of others that are not told. */
    private static String told(int... far) {
        StringBuilder lines = new StringBuilder("sheet(0, 2, 6)\nset(0, 0, 77)\nset(0, 5, 78)\n");
        for (int u = 0; u < 4; u++) {
            lines.append("set(0, ").append(u + 1).append(", ").append(far[u]).append(")\n");
        }
        return lines.toString();
    }

    private static void rows() {
        Runs.says("ALL THAT FIT: rows of 4 NUMBERS, each 0, or 1 with a TURN: codes 0; 1 to 4 (TURN and 1):", told(1, 1, 1, 1) + """
            fits(8, 0, 1, 0) = 1
            fits(8, 0, 1, 1) = 2
            fits(8, 0, 1, 2) = 3
            fits(8, 0, 1, 3) = 4
            fits(8, 0, 1, 4) = NONE
            """);
        Runs.says("as a number, the first code times 125, the second 25, 5, 1, added.", told(1, 1, 1, 1) + """
            fits(1, 0, 1, 3) = 500
            fits(2, 0, 1, 3) = 100
            fits(4, 0, 1, 3) = 20
            fits(8, 0, 1, 3) = 4
            """);
        Runs.says("as a number, the first code times 125, the second 25, 5, 1, added.", told(16, 0, 0, 0) + """
            fits(15, 0, 1, 0) = 156
            fits(15, 0, 1, 3) = 624
            """);
        Runs.says("NEAR of a row: the set of places where it is not 0 (bits).", told(0, 0, 0, 0) + """
            fits(0, 0, 1, -1) = 1
            fits(0, 0, 1, 0) = 0
            """ + Runs.each(1, 15, "fits(#, 0, 1, -1) = 0"));
        // 1 and i at places 0 and 1: i is turned on from u to u, and only once stands against 1.
        Runs.says("FAR: at u the sum over x of the x-th by TURN u x modulo 4; its BRIGHTNESS, four numbers.", told(2, 0, 2, 4) + """
            fits(3, 0, 1, -1) = 4
            fits(3, 0, 1, 0) = 175
            """);
        Runs.says("FAR: at u the sum over x of the x-th by TURN u x modulo 4; its BRIGHTNESS, four numbers.", told(0, 0, 0, 16) + """
            fits(15, 0, 1, -1) = 4
            fits(15, 0, 1, 0) = 194
            """);
        Runs.says("Those that have a told NEAR set (bits) and FAR BRIGHTNESS: how many, which;", told(4, 4, 4, 4) + """
            fits(15, 0, 1, -1) = 32
            fits(15, 0, 1, 0) = 158
            fits(15, 0, 1, 31) = 622
            fits(15, 0, 1, 32) = NONE
            fits(14, 0, 1, -1) = 0
            """);
        Runs.says("LIKES: one is like another one, if it is that by one TURN for all; how many there are up to LIKES.", """
            sheet(0, 0, 4) = 4
            fits(0, 0, 0, -2) = 1
            fits(1, 0, 0, -2) = 0
            set(0, 0, 4) = 4
            set(0, 1, 4) = 4
            set(0, 2, 4) = 4
            set(0, 3, 4) = 4
            fits(15, 0, 0, -2) = 8
            fits(0, 0, 0, -2) = 0
            """);
    }

    private static void fits() {
        String words = "ALL THAT FIT: a NEAR set (0 to 15), FAR BRIGHTNESS four ITEMS of a SHEET from i on: how many (k = -1),"
            + " the k-th as a number, by rising ones; NONE: not so many; of k = -2 how many up to LIKES.";
        Runs.says(words, told(2, 2, 2, 2) + """
            fits(5, 0, 1, -1) = 8
            fits(5, 0, 1, -2) = 2
            fits(5, 0, 1, 0) = 135
            fits(5, 0, 1, 1) = 145
            fits(5, 0, 1, 2) = 255
            fits(5, 0, 1, 7) = 515
            fits(5, 0, 1, 8) = NONE
            status() = 0
            fits(5, 0, 1, MAX) = NONE
            fits(5, 0, 0, -1) = 0
            fits(5, 0, 2, -1) = 0
            fits(5, 0, 0, 0) = NONE
            """);
        // An ITEM of a LANE is what it became there: 260 as a byte is 4.
        Runs.says("FAR BRIGHTNESS four ITEMS of a SHEET from i on", """
            sheet(0, 0, 64) = 64
            set(0, 60, 272) = 16
            fits(15, 0, 60, -1) = 4
            set(0, 61, 128) = -128
            fits(15, 0, 60, -1) = 0
            sheet(0, 2, 4) = 4
            set(0, 0, MIN) = MIN
            fits(15, 0, 0, -1) = 0
            set(0, 0, MAX) = MAX
            fits(15, 0, 0, -2) = 0
            """);
    }

    private static void fitsRefused() {
        String words = "BAD: NEAR, SHEET, k below -2; NULL; PLACE.";
        Runs.says(words, """
            sheet(0, 2, 4) = 4
            sheet(7, 2, 4) = 4
            fits(-1, 0, 0, 0) = BAD
            fits(16, 0, 0, 0) = BAD
            fits(MIN, 0, 0, 0) = BAD
            fits(MAX, 0, 0, 0) = BAD
            fits(0, -1, 0, 0) = BAD
            fits(0, 8, 0, 0) = BAD
            fits(0, MIN, 0, 0) = BAD
            fits(0, MAX, 0, 0) = BAD
            fits(0, 0, 0, -3) = BAD
            fits(0, 0, 0, MIN) = BAD
            fits(0, 0, 0, -2) = 1
            fits(15, 7, 0, -1) = 0
            """);
        Runs.says(words, """
            fits(0, 0, 0, 0) = NULL
            status() = 1
            sheet(0, 2, 3) = 3
            fits(0, 0, 0, 0) = PLACE
            status() = 2
            sheet(0, 2, 0) = 0
            fits(0, 0, 0, 0) = PLACE
            sheet(0, 2, 4) = 4
            fits(0, 0, -1, 0) = PLACE
            fits(0, 0, 1, 0) = PLACE
            fits(0, 0, 4, 0) = PLACE
            fits(0, 0, MIN, 0) = PLACE
            fits(0, 0, MAX, 0) = PLACE
            fits(0, 0, 0, 0) = 0
            sheet(0, 2, 64) = 64
            fits(0, 0, 60, 0) = 0
            fits(0, 0, 61, 0) = PLACE
            """);
    }

    private static void marks() {
        String powers = "wave 0: 0 1 0, 1 1 1, 14 2 0, 15 2 2\ntake(0, 0, 1, 1) = 0\n";
        Runs.says("A MARK: a set of places (16 bits).", powers + """
            mark(0, 0, 0) = -15
            mark(0, 1, 0) = -13
            mark(0, 2, 0) = -11
            mark(0, 16384, 0) = -7
            mark(0, 32768, 0) = 1
            mark(0, 65535, 0) = 15
            mark(0, 65536, 0) = BAD
            """);
        Runs.says("Its SUM on a PLATE: GRAINS of places of the set added, less all others (LOST ones nothing).", powers + """
            mark(0, 49153, 0) = 11
            lose(0, 15) = 8
            mark(0, 49153, 0) = 3
            mark(0, 16385, 0) = 3
            mark(0, 0, 0) = -7
            mark(0, 65535, 0) = 7
            """);
        // Of the four that are not dark 16 sums, all unlike, each with 4096 MARKS.
        Runs.says("FALSE: how many of all 65536 MARKS have as great a SUM or a greater one.", powers + """
            mark(0, 65535, 1) = 4096
            mark(0, 0, 1) = 65536
            mark(0, 1, 1) = 61440
            mark(0, 32768, 1) = 32768
            mark(0, 16387, 1) = 36864
            lose(0, 15) = 8
            mark(0, 65535, 1) = 8192
            mark(0, 32767, 1) = 8192
            mark(0, 0, 1) = 65536
            """);
        Runs.says("FALSE: how many of all 65536 MARKS have as great a SUM or a greater one.", """
            take(0, 0, 0, 1) = 0
            mark(0, 0, 1) = 65536
            mark(0, 65535, 1) = 65536
            wave 0: all 1000000 0
            take(0, 0, 0, 1) = 16
            mark(0, 65535, 0) = 4080
            mark(0, 0, 0) = -4080
            mark(0, 255, 0) = 0
            mark(0, 65535, 1) = 1
            mark(0, 65534, 1) = 17
            mark(0, 32767, 1) = 17
            mark(0, 255, 1) = 39203
            mark(0, 1, 1) = 65535
            mark(0, 0, 1) = 65536
            """ + Runs.each(0, 15, "lose(0, #) = 255") + """
            mark(0, 65535, 0) = 0
            mark(0, 65535, 1) = 65536
            """);
    }

    private static void markRefused() {
        Runs.says("SUM of a MARK (0 to 65535) on a PLATE (what = 0), FALSE (1). BAD; NULL.", """
            run "point 0 0 0 1 0;" = 1
            take(0, 0, 1, 1) = 0
            take(5, 0, 1, 1) = 0
            mark(-1, 0, 0) = BAD
            mark(6, 0, 0) = BAD
            mark(MIN, 0, 0) = BAD
            mark(MAX, 0, 0) = BAD
            mark(0, -1, 0) = BAD
            mark(0, 65536, 0) = BAD
            mark(0, -1, 1) = BAD
            mark(0, 65536, 1) = BAD
            mark(0, MIN, 0) = BAD
            mark(0, MAX, 0) = BAD
            mark(0, 0, -1) = BAD
            mark(0, 0, 2) = BAD
            mark(0, 0, MIN) = BAD
            mark(0, 0, MAX) = BAD
            mark(1, 0, 0) = NULL
            status() = 1
            mark(1, 0, 1) = NULL
            mark(5, 65535, 0) = 1
            status() = 0
            mark(0, 0, 1) = 65536
            """);
    }

    private static void aim() {
        String words = "AIM: a PLATE of GRAINS 0 and 1 with STEP 1, read with a plane WAVE (p, q, strength 1, TURN 0), sent on its WAY:";
        Runs.says(words, """
            aim(0, 0, 0, 0, 0) = 256
            aim(0, 0, 0, 0, 1) = 65535
            aim(3, 1, 1, 3, 0) = 256
            aim(3, 1, 1, 3, 1) = 65535
            aim(1, 0, 0, 0, 0) = 32
            aim(0, 0, 1, 0, 0) = 32
            aim(2, 0, 0, 0, 0) = 64
            count(1) = 0
            count(2) = 0
            """);
        // With p 1 a row sends 1, i, -1, -i: any two that stand beside each other send the most; 0 and 1 are the least.
        Runs.says("the most BRIGHT that it can have at u, v, and the least set of GRAINS 1,", """
            aim(1, 0, 0, 0, 1) = 13107
            aim(0, 1, 0, 0, 1) = 255
            aim(2, 0, 0, 0, 1) = 21845
            aim(0, 2, 0, 0, 1) = 3855
            aim(3, 3, 3, 3, 0) = 64
            aim(3, 3, 3, 3, 1) = 23130
            """);
        Runs.says("as a number (place k: 2 to the power k), that has it.", """
            aim(3, 0, 0, 0, 1) = 13107
            aim(0, 3, 0, 0, 1) = 255
            aim(0, 0, 0, 3, 1) = 255
            aim(0, 0, 3, 0, 1) = 13107
            """);
    }

    private static void aimRefused() {
        String words = "AIM: the most BRIGHT (what = 0), the set (1). BAD: p, q, u, v (0 to 3 each), what.";
        for (String wrong : new String[] {"-1", "4", "MIN", "MAX"}) {
            Runs.says(words, "aim(#, 0, 0, 0, 0) = BAD\naim(0, #, 0, 0, 0) = BAD\naim(0, 0, #, 0, 0) = BAD\n".replace("#", wrong)
                + "aim(0, 0, 0, #, 0) = BAD\naim(0, 0, 0, #, 1) = BAD\naim(0, 0, 0, 0, #) = BAD\n".replace("#", wrong));
        }
        Runs.says(words, """
            drop(0) = NULL
            aim(0, 0, 0, 0, 2) = BAD
            aim(3, 3, 3, 3, 0) = 64
            aim(3, 3, 3, 3, 1) = 23130
            status() = 1
            """);
    }
}
