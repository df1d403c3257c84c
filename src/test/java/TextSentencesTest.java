/** The sentences of the document on TEXTS and FAULTS, and of promises 6 to 8. */
public final class TextSentencesTest {
    private static final String EIGHT_BLANKS = "feed(0x2020202020202020, 8)\n";

    public static void main(String[] args) {
        tape();
        feed();
        tokens();
        blanks();
        pointAndPlane();
        dimAndTurn();
        addWayAndWipe();
        whatActsDo();
        oneByOne();
        faults();
        run();
        fault();
        Check.finish();
    }

    private static void tape() {
        Runs.says("TEXTS: THE TAPE has at most 400 bytes;", EIGHT_BLANKS.repeat(49) + """
            count(7) = 392
            feed(0x2020202020202020, 8) = 400
            feed(0x20, 1) = FULL
            count(7) = 400
            run() = 0
            count(7) = 0
            feed(0x20, 1) = 1
            """);
        Runs.says("TEXTS: THE TAPE has at most 400 bytes;", """
            feed(0x20, 1) = 1
            """ + EIGHT_BLANKS.repeat(49) + """
            count(7) = 393
            feed(0x2020202020202020, 8) = FULL
            feed(0x20202020202020, 7) = 400
            feed(0x2020, 2) = FULL
            """);
        Runs.says("TEXTS: THE TAPE has at most 400 bytes;", "feed(0x776179303b, 5)\n".repeat(80) + """
            count(7) = 400
            run() = 80
            """);
        Runs.says("FULL: none comes.", EIGHT_BLANKS.repeat(49) + """
            feed "    " = 396
            feed(0x776179303b, 5) = FULL
            count(7) = 396
            run() = 0
            """);
    }

    private static void feed() {
        String words = "The lowest n bytes of w (1 to 8), the highest of them first, come behind the tape: how many it has.";
        Runs.says(words, """
            feed(0x7878787877617930, 4) = 4
            feed(0x787878787878783b, 1) = 5
            run() = 1
            feed(0x7761792030303b20, 8) = 8
            run() = 1
            feed(0x7861647430303b, 6) = 6
            run() = -1000100
            feed(0x776970, 3) = 3
            feed(0x6530, 2) = 5
            feed(0x3b, 1) = 6
            run() = 1
            """);
        Runs.says(words, """
            feed(-9223372036854775808, 8) = 8
            run() = -1000100
            feed(-9223372036854775776, 1) = 1
            run() = 0
            feed(-1, 2) = 2
            feed(-1, 8) = 10
            run() = -1000100
            feed(0x20FF, 2) = 2
            run() = -1000101
            """);
        Runs.says("BAD: n; FULL: none comes.", """
            feed "way 0;" = 6
            feed(0x20, 0) = BAD
            feed(0x20, 9) = BAD
            feed(0x20, -1) = BAD
            feed(0x20, MIN) = BAD
            feed(0x20, MAX) = BAD
            count(7) = 6
            feed(0x20, 1) = 7
            feed(0x2020202020202020, 8) = 15
            run() = 1
            """);
    }

    private static void tokens() {
        Runs.says("TOKENS: NAMES (letters a to z)", """
            fault "adda 0 0;" = 0 1
            fault "addz 0 0;" = 0 1
            fault "aadd 0 0;" = 0 1
            fault "zadd 0 0;" = 0 1
            fault "add<96> 0 0;" = 3 1
            fault "add<123> 0 0;" = 3 1
            fault "addA 0 0;" = 3 1
            fault "addZ 0 0;" = 3 1
            fault "Add 0 0;" = 0 1
            fault "ad 0 0;" = 0 1
            fault "add0add 0;" = 4 1
            fault "add_ 0 0;" = 3 1
            """);
        for (String name : new String[] {"point", "plane", "dim", "turn", "add", "way", "wipe"}) {
            misspelt(name);
        }
        Runs.says("NUMBERS (figures, 5 at most)", """
            run "way 7;" = 1
            fault "way 9;" = 4 2
            fault "way /;" = 4 1
            fault "way :;" = 4 1
            fault "way 0/;" = 5 1
            fault "way 0:;" = 5 1
            fault "way -1;" = 4 1
            fault "way +1;" = 4 1
            run "way 00007;" = 1
            fault "way 00008;" = 4 2
            fault "way 99999;" = 4 2
            fault "way 000007;" = 4 1
            fault "way 100000;" = 4 1
            fault "way 999999;" = 4 1
            fault "way 4294967296;" = 4 1
            fault "way 18446744073709551616;" = 4 1
            fault "point 0 0 0 001000 0;" = 12 1
            run "point 0 0 0 01000 0;" = 1
            """);
        Runs.says("SIGNS ;", """
            run "way 0;" = 1
            fault "way 0:" = 5 1
            fault "way 0<60>" = 5 1
            fault "way 0," = 5 1
            fault "way 0." = 5 1
            fault "way 0<187>" = 5 1
            fault ";" = 0 1
            """);
    }

    /** A NAME with another letter anywhere, with one too few or one too many is no NAME of the text. */
    private static void misspelt(String name) {
        StringBuilder lines = new StringBuilder();
        for (int k = 0; k < name.length(); k++) {
            lines.append("fault \"").append(name, 0, k).append('x').append(name.substring(k + 1)).append(" 0;\" = 0 1\n");
            lines.append("fault \"").append(name, 0, k).append(name.substring(k + 1)).append(" 0;\" = 0 1\n");
        }
        Runs.says("1 it cannot stand there, or is none", lines + "fault \"" + name + "s 0;\" = 0 1\n"
            + "fault \"" + name + name + " 0;\" = 0 1\n");
    }

    private static void blanks() {
        Runs.says("bytes 32 and 10 between.", """
            run "<32><10>way<10><32>0<10><10>;<32><10>wipe<10>0<32>;<10>" = 2
            run "<32>" = 0
            run "<10>" = 0
            run "way0;way0;" = 2
            fault "<9>way 0;" = 0 1
            fault "way<9>0;" = 3 1
            fault "way 0<13>;" = 5 1
            fault "way 0;<13><10>" = 6 1
            fault "way 0;<11>" = 6 1
            fault "<31>" = 0 1
            fault "<33>" = 0 1
            fault "<0>" = 0 1
            fault "<42>" = 0 1
            fault "<138>" = 0 1
            fault "<160>" = 0 1
            fault "wa y 0;" = 0 1
            fault "way 0 0;" = 6 1
            fault "w<10>ay 0;" = 0 1
            """);
    }

    /** An act with its least and its greatest NUMBERS is sound; each NUMBER, one above that, is not. */
    private static void rangesOf(String sentence, String name, int... most) {
        Runs.says(sentence, "run \"" + name + " 0".repeat(most.length) + ";\" = 1\n"
            + "run \"" + name + numbers(most, -1) + ";\" = 1\n");
        for (int k = 0; k < most.length; k++) {
            String ahead = name + numbers(java.util.Arrays.copyOf(most, k), -1) + " ";
            Runs.says(sentence, "fault \"" + name + numbers(most, k) + ";\" = " + ahead.length() + " 2\n"
                + "fault \"" + ahead + "99999\" = " + ahead.length() + " 2\n"
                + "fault \"" + ahead + ";\" = " + ahead.length() + " 1\n"
                + "fault \"" + ahead + "way 0;\" = " + ahead.length() + " 1\n"
                + "fault \"" + ahead + "\" = " + ahead.length() + " 1\n");
        }
        String whole = name + numbers(most, -1);
        Runs.says(sentence, "fault \"" + whole + "\" = " + whole.length() + " 1\n"
            + "fault \"" + whole + " 0;\" = " + (whole.length() + 1) + " 1\n"
            + "fault \"" + whole + " way 0;\" = " + (whole.length() + 1) + " 1\n"
            + "fault \"" + whole + ";;\" = " + (whole.length() + 1) + " 1\n"
            + "fault \"" + whole + "; 0\" = " + (whole.length() + 2) + " 1\n"
            + "run \"" + whole + ";" + whole + ";\" = 2\n");
    }

    private static String numbers(int[] most, int beyond) {
        StringBuilder text = new StringBuilder();
        for (int k = 0; k < most.length; k++) {
            text.append(' ').append(most[k] + (k == beyond ? 1 : 0));
        }
        return text.toString();
    }

    private static void pointAndPlane() {
        rangesOf("'point' NUMBER NUMBER NUMBER NUMBER NUMBER ';' (WAVE, x, y, strength 0 to 1000, TURN)", "point", 7, 3, 3, 1000, 3);
        rangesOf("'plane' NUMBER NUMBER NUMBER NUMBER NUMBER ';' (WAVE, p, q (0 to 3 each), strength, TURN)",
            "plane", 7, 3, 3, 1000, 3);
    }

    private static void dimAndTurn() {
        rangesOf("'dim' NUMBER NUMBER NUMBER ';' (WAVE, x, y)", "dim", 7, 3, 3);
        rangesOf("'turn' NUMBER NUMBER NUMBER NUMBER ';' (WAVE, x, y, TURN)", "turn", 7, 3, 3, 3);
    }

    private static void addWayAndWipe() {
        rangesOf("'add' NUMBER NUMBER ';' (to a WAVE another one)", "add", 7, 7);
        rangesOf("'way' NUMBER ';'", "way", 7);
        rangesOf("'wipe' NUMBER ';'", "wipe", 7);
        Runs.says("text: {", """
            run "" = 0
            run "way 0;" = 1
            run "way 0;wipe 0;dim 0 0 0;" = 3
            fault "{way 0;}" = 0 1
            """);
    }

    private static void whatActsDo() {
        Runs.says("point: at x, y the strength with the TURN is added;", """
            run "point 0 0 0 0 0;point 0 3 3 0 3;" = 2
            count(1) = 0
            run "point 0 3 0 5 0;point 0 0 3 6 1;point 0 3 3 1000 2;point 0 3 3 1000 3;" = 4
            number(0, 3) = 5 0
            number(0, 12) = 0 6
            number(0, 15) = -1000 -1000
            number(0, 0) = 0 0
            """);
        Runs.says("plane: at each x, y the strength with TURN (TURN and p x and q y) modulo 4;", """
            run "plane 0 3 3 2 3;" = 1
            number(0, 0) = 0 -2
            number(0, 1) = -2 0
            number(0, 2) = 0 2
            number(0, 3) = 2 0
            number(0, 4) = -2 0
            number(0, 15) = 0 2
            run "plane 0 0 0 1000 1;" = 1
            number(0, 0) = 0 998
            number(0, 15) = 0 1002
            run "plane 1 0 1 0 0;" = 1
            even(1) = 0 0
            """);
        Runs.says("dim: 0 there;", """
            run "plane 0 0 0 2 1;dim 0 3 0;dim 0 0 3;dim 0 1 1;dim 0 1 1;" = 5
            number(0, 3) = 0 0
            number(0, 12) = 0 0
            number(0, 5) = 0 0
            number(0, 4) = 0 2
            number(0, 15) = 0 2
            """);
        Runs.says("turn: the NUMBER there is turned;", """
            run "point 0 3 3 5 0;point 0 3 3 2 1;turn 0 3 3 0;" = 3
            number(0, 15) = 5 2
            run "turn 0 3 3 1;" = 1
            number(0, 15) = -2 5
            run "turn 0 3 3 2;" = 1
            number(0, 15) = 2 -5
            run "turn 0 3 3 3;turn 0 0 0 1;" = 2
            number(0, 15) = -5 -2
            number(0, 0) = 0 0
            """);
        Runs.says("wipe: all 0.", """
            run "plane 0 1 2 5 0;plane 1 1 2 5 0;wipe 0;wipe 2;" = 4
            even(0) = 0 0
            number(1, 15) = 0 5
            count(1) = 1
            """);
    }

    private static void oneByOne() {
        Runs.says("They are done, one by one, when all is read;", """
            run "point 0 0 0 5 0;turn 0 0 0 1;point 0 0 0 3 0;add 1 0;dim 0 0 0;" = 5
            number(0, 0) = 0 0
            number(1, 0) = 3 5
            fault "wipe 1;point 0 0 0 5 0;way 8;" = 27 2
            number(0, 0) = 0 0
            number(1, 0) = 3 5
            """);
        String words = "one that would be FULL changes nothing, the others are done.";
        Runs.says(words, """
            wave 0: 0 999999 0, 1 -999999 0, 2 0 999999, 3 0 -999999
            run "point 0 0 0 1 0;point 0 1 0 1 2;point 0 2 0 1 1;point 0 3 0 1 3;" = 4
            run "point 0 0 0 1 0;point 0 1 0 1 2;point 0 2 0 1 1;point 0 3 0 1 3;" = 0
            number(0, 0) = 1000000 0
            number(0, 1) = -1000000 0
            number(0, 2) = 0 1000000
            number(0, 3) = 0 -1000000
            run "point 0 0 0 1 0;point 0 0 0 1 1;point 0 0 0 1 0;point 0 0 0 1 2;" = 2
            number(0, 0) = 999999 1
            """);
        Runs.says(words, """
            wave 0: 15 999000 -999000
            run "plane 0 0 0 1000 0;plane 0 0 0 1000 3;" = 2
            number(0, 15) = 1000000 -1000000
            run "plane 0 0 0 1 0;plane 0 0 0 1 3;plane 0 0 0 1 2;" = 1
            number(0, 15) = 999999 -1000000
            number(0, 0) = 999 -1000
            """);
        Runs.says(words, """
            wave 0: 15 500000 -500001, 14 1 1
            run "add 0 0;" = 0
            number(0, 14) = 1 1
            number(0, 15) = 500000 -500001
            wave 1: 15 500000 -499999
            run "add 0 1;add 0 2;add 0 1;" = 2
            number(0, 15) = 1000000 -1000000
            number(0, 14) = 1 1
            """);
        Runs.says(words, """
            wave 0: 0 1000000 0, 1 0 1
            run "way 0;dim 0 1 0;way 0;" = 2
            even(0) = 1000000 0
            run "turn 0 0 0 2;turn 0 3 3 1;wipe 1;dim 0 2 0;" = 4
            number(0, 0) = -1000000 0
            number(0, 15) = 0 1000000
            """);
    }

    private static void faults() {
        Runs.says("FAULTS, the first TOKEN that has one (its first byte)", """
            fault "way 8 x" = 4 2
            fault "way x 8" = 4 1
            fault "add 0 100;way 8;x" = 6 2
            fault "way 0;  wayne 0;" = 8 1
            fault "point 0 0 0 12345 9;" = 12 2
            fault "point 0 0 0 9 12345;" = 14 2
            fault "way 0; 00000;" = 7 1
            fault "way 0;<200>way 8;" = 6 1
            """);
        Runs.says("of one TOKEN the least:", """
            fault "99999" = 0 1
            fault "way 0 99999;" = 6 1
            fault "way 0;8;" = 6 1
            fault "way 123456;" = 4 1
            """);
        Runs.says("1 it cannot stand there, or is none", """
            fault "way way;" = 4 1
            fault "way ;" = 4 1
            fault ";way 0;" = 0 1
            fault "0 way;" = 0 1
            fault "strength 0;" = 0 1
            fault "way ?;" = 4 1
            fault "?" = 0 1
            """);
        Runs.says("(the end: how many bytes there are);", """
            fault "way" = 3 1
            fault "way " = 4 1
            fault "way 0" = 5 1
            fault "way 0<10><10> " = 8 1
            fault "way 0;w" = 6 1
            run "way 0; " = 1
            """);
        Runs.says("(the end: how many bytes there are);", "feed(0x7761792020202020, 8)\n" + EIGHT_BLANKS.repeat(49) + """
            run() = -1000500
            fault() = 1
            count(7) = 0
            """);
        Runs.says("2 a NUMBER that is not as told.", """
            fault "way 8;" = 4 2
            fault "way 00010;" = 4 2
            fault "turn 0 0 0 4" = 11 2
            run "way 7;" = 1
            """);
    }

    private static void run() {
        String words = "The tape, empty then, is read and done: how many acts were done (those that would be FULL were not).";
        Runs.says(words, """
            run() = 0
            feed "way 0;" = 6
            run() = 1
            count(7) = 0
            run() = 0
            fault "x" = 0 1
            run() = 0
            feed "wipe 0;" = 7
            run() = 1
            wave 0: 0 1000000 0
            run "point 0 0 0 1 0;" = 0
            run "point 0 0 0 1 0;point 0 0 0 1 1;" = 1
            """);
        Runs.says("-1000100 less the place of a FAULT: nothing is done.", """
            run "point 0 0 0 5 0;" = 1
            feed "x" = 1
            run() = -1000100
            feed "wipe 0;x" = 8
            run() = -1000107
            count(7) = 0
            number(0, 0) = 5 0
            feed "way 0;wipe 0;dim 0 0 0" = 22
            run() = -1000122
            number(0, 0) = 5 0
            """);
        Runs.says("-1000100 less the place of a FAULT: nothing is done.", EIGHT_BLANKS.repeat(49) + """
            feed "       x" = 400
            run() = -1000499
            """);
    }

    private static void fault() {
        Runs.says("The number of the latest FAULT; 0 before one.", """
            fault() = 0
            run "way 0;" = 1
            fault() = 0
            fault "way 8;" = 4 2
            run "way 0;" = 1
            fault() = 2
            run "" = 0
            fault() = 2
            fault "way" = 3 1
            fault() = 1
            feed(0, 9) = BAD
            fault() = 1
            """);
    }
}
