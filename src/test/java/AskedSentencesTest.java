/** The sentences of the document on KINDS and ASKS, and of promises 24 to 29. */
public final class AskedSentencesTest {
    /** A plate that is FULLY, CLEAR, TORN with one and with seven LOST, BLIND with eight and with all LOST. */
    private static final String FULLY = "wave 0: 0 6 0, 15 0 5\ntake(0, 0, 1, 7) = 0\n";
    private static final String CLEAR = "wave 0: 0 16 0, 15 0 5\ntake(0, 0, 1, 1) = 1\n";
    private static final String TORN = CLEAR + "lose(0, 0) = 255\n";
    private static final String SEVEN = TORN + Runs.each(1, 6, "lose(0, #) = 0");
    private static final String BLIND = SEVEN + "lose(0, 7) = 0\n";
    private static final String GONE = BLIND + Runs.each(8, 14, "lose(0, #) = 0") + "lose(0, 15) = 25\n";

    public static void main(String[] args) {
        kinds();
        kindRefused();
        as();
        sizes();
        marks();
        trace();
        ask();
        count();
        status();
        statusOfEachCall();
        itemsThatLookLikeFindings();
        Check.finish();
    }

    private static void kinds() {
        Runs.says("1 CLEAR, a PLATE: no GRAIN is LOST;", CLEAR + "kind(0) = 1\nlose(0, 3) = 0\nkind(0) = 3\n");
        Runs.says("2 FULLY, a CLEAR one: no GRAIN is 255;", """
            wave 0: 0 27 17, 15 30 11
            take(0, 0, 1, 4) = 1
            kind(0) = 1
            run "dim 0 3 3;" = 1
            take(0, 0, 1, 4) = 0
            grain(0, 0) = 254
            kind(0) = 2
            take(1, 2, 2, 1) = 0
            kind(1) = 2
            """);
        Runs.says("3 TORN, a PLATE: some GRAIN is LOST;", TORN + "kind(0) = 3\n" + Runs.each(1, 6, "lose(0, #) = 0") + "kind(0) = 3");
        Runs.says("4 BLIND, a TORN one: 8 or more are.", SEVEN + "kind(0) = 3\nlose(0, 6) = NONE\nkind(0) = 3\n"
            + "lose(0, 7) = 0\nkind(0) = 4\nlose(0, 8) = 0\nkind(0) = 4");
        Runs.says("4 BLIND, a TORN one: 8 or more are.", GONE + "kind(0) = 4\n");
        Runs.says("It is told as the last of these that fits: by this it is asked.", FULLY + """
            kind(0) = 2
            ask(0, 0) = 30
            trace(0) = 12
            take(0, 0, 1, 1) = 0
            kind(0) = 2
            take(0, 0, 0, 1) = 0
            kind(0) = 2
            lose(0, 0) = 144
            kind(0) = 3
            ask(0, 1) = 1
            trace(0) = 23
            take(0, 0, 1, 7) = 0
            kind(0) = 2
            """);
    }

    private static void kindRefused() {
        Runs.says("The KIND of a PLATE, as it is told (1 to 4). BAD; NULL.", """
            take(0, 0, 0, 1) = 0
            take(5, 0, 0, 1) = 0
            kind(-1) = BAD
            kind(6) = BAD
            kind(MIN) = BAD
            kind(MAX) = BAD
            kind(1) = NULL
            status() = 1
            kind(5) = 2
            status() = 0
            kind(0) = 2
            """);
    }

    private static void as() {
        Runs.says("KINDS: 0 PLATE; 1 CLEAR", FULLY + "as(0, 0) = 7\nas(0, 1) = 7\nas(0, 2) = 7\nas(0, 3) = KIND\nas(0, 4) = KIND\n");
        Runs.says("KINDS: 0 PLATE; 1 CLEAR", CLEAR + "as(0, 0) = 1\nas(0, 1) = 1\nas(0, 2) = KIND\nas(0, 3) = KIND\nas(0, 4) = KIND\n");
        Runs.says("KINDS: 0 PLATE; 1 CLEAR", SEVEN + "as(0, 0) = 1\nas(0, 1) = KIND\nas(0, 2) = KIND\nas(0, 3) = 1\nas(0, 4) = KIND\n");
        Runs.says("KINDS: 0 PLATE; 1 CLEAR", BLIND + "as(0, 0) = 1\nas(0, 1) = KIND\nas(0, 2) = KIND\nas(0, 3) = 1\nas(0, 4) = 1\n");
        Runs.says("A PLATE is taken as one of a KIND (0 .. 4): its STEP.", """
            take(5, 0, 0, 100000) = 0
            as(5, 0) = 100000
            as(5, 2) = 100000
            take(5, 0, 0, 1) = 0
            as(5, 0) = 1
            """);
        Runs.says("BAD; NULL; KIND: it is no such one.", TORN + """
            as(-1, 0) = BAD
            as(6, 0) = BAD
            as(MIN, 0) = BAD
            as(MAX, 0) = BAD
            as(0, -1) = BAD
            as(0, 5) = BAD
            as(0, MIN) = BAD
            as(0, MAX) = BAD
            as(1, 0) = NULL
            status() = 1
            as(0, 1) = KIND
            status() = 3
            as(0, 0) = 1
            status() = 0
            """);
    }

    private static void sizes() {
        Runs.says("ASKS of PLATES, by BODIES, each of which leaves its number in THE TRACE as it begins (the first 16):", FULLY + """
            trace(0) = NONE
            ask(0, 1) = 1035
            trace(0) = 22
            trace(1) = 21
            trace(2) = 20
            trace(3) = 12
            trace(4) = 11
            trace(5) = 10
            trace(6) = NONE
            trace(15) = NONE
            trace(16) = NONE
            """);
        Runs.says("0 SIZE: 10 lent to all PLATES: all GRAINS added.", """
            wave 0: all 1000000 0
            take(0, 0, 0, 1) = 16
            ask(0, 0) = 4081
            lose(0, 0) = 255
            ask(0, 0) = 3824
            trace(1) = 10
            """);
        Runs.says("11 of CLEAR ones: what 10 gives, and STEP.", CLEAR + """
            ask(0, 0) = 281
            trace(0) = 11
            trace(1) = 10
            trace(2) = NONE
            """);
        Runs.says("12 of FULLY ones: what 11 gives, twice.", """
            take(0, 0, 0, 100000) = 0
            ask(0, 0) = 200000
            trace(0) = 12
            trace(1) = 11
            trace(2) = 10
            trace(3) = NONE
            """);
        Runs.says("13 of TORN ones: what 10 gives, less MARK.", SEVEN + """
            ask(0, 0) = 18
            trace(0) = 13
            trace(1) = 10
            trace(2) = 23
            trace(3) = NONE
            """);
        Runs.says("14 of BLIND ones: what 13 gives, and 1000.", GONE + """
            ask(0, 0) = 984
            trace(0) = 14
            trace(1) = 13
            trace(2) = 10
            trace(3) = 23
            trace(4) = NONE
            """);
    }

    private static void marks() {
        Runs.says("1 MARK: 20 lent to all PLATES: the greatest GRAIN.", """
            wave 0: 0 1 0, 1 3 0, 15 2 0
            take(0, 0, 1, 1) = 0
            ask(0, 1) = 1039
            take(1, 1, 1, 1) = 0
            ask(1, 1) = 1002
            """);
        Runs.says("21 of CLEAR ones: what 20 gives, and 1000.", CLEAR + """
            ask(0, 1) = 1255
            trace(0) = 21
            trace(1) = 20
            trace(2) = NONE
            """);
        Runs.says("22 of FULLY ones: what 21 gives, and SIZE.", FULLY + """
            ask(0, 1) = 1035
            trace(0) = 22
            trace(1) = 21
            trace(2) = 20
            trace(3) = 12
            """);
        Runs.says("23 of TORN ones: how many are LOST.", TORN + """
            ask(0, 1) = 1
            trace(0) = 23
            trace(1) = NONE
            """);
        Runs.says("(Of an ask the BODY told for the KIND begins, else that of the nearest KIND that it is, too, else the one that is lent;",
            GONE + """
            ask(0, 1) = 16
            trace(0) = 23
            trace(1) = NONE
            """);
        Runs.says("SIZE, MARK within others are asked of the same PLATE anew.)", BLIND + """
            ask(0, 0) = 1017
            trace(0) = 14
            trace(1) = 13
            trace(2) = 10
            trace(3) = 23
            trace(4) = NONE
            """);
    }

    private static void trace() {
        Runs.says("Number i of THE TRACE; NONE.", CLEAR + """
            trace(0) = NONE
            ask(0, 0) = 281
            trace(0) = 11
            trace(1) = 10
            trace(2) = NONE
            trace(-1) = NONE
            trace(15) = NONE
            trace(16) = NONE
            trace(NONE) = NONE
            trace(MIN) = NONE
            trace(MAX) = NONE
            """);
    }

    private static void ask() {
        Runs.says("An ASK (0, 1) of a PLATE. BAD; NULL.", CLEAR + """
            take(5, 1, 1, 1) = 0
            ask(-1, 0) = BAD
            ask(6, 0) = BAD
            ask(MIN, 0) = BAD
            ask(MAX, 0) = BAD
            ask(0, -1) = BAD
            ask(0, 2) = BAD
            ask(0, MIN) = BAD
            ask(0, MAX) = BAD
            ask(1, 0) = NULL
            status() = 1
            ask(1, 1) = NULL
            ask(0, 0) = 281
            status() = 0
            ask(5, 1) = 1002
            """);
        Runs.says("THE TRACE is empty ahead of it, if it is not BAD.", CLEAR + """
            take(1, 1, 1, 1) = 0
            ask(1, 1) = 1002
            trace(5) = 10
            ask(0, 1) = 1255
            trace(0) = 21
            trace(1) = 20
            trace(2) = NONE
            ask(0, 2) = BAD
            ask(6, 0) = BAD
            trace(0) = 21
            trace(1) = 20
            ask(2, 0) = NULL
            trace(0) = NONE
            trace(1) = NONE
            """);
    }

    private static void count() {
        Runs.says("How many: 0 SHEETS,", Runs.each(0, 7, "sheet(#, 1, 0) = 0") + "count(0) = 8\ndrop(3) = 0\ncount(0) = 7\n"
            + "sheet(4, 0, 64) = 64\ncount(0) = 7\n");
        Runs.says("1 WAVES with a NUMBER that is not 0,", """
            count(1) = 0
            run "point 0 0 0 1 0;point 1 3 3 1 1;point 7 1 0 1 2;point 6 0 0 0 0;" = 4
            count(1) = 3
            run "point 0 0 0 1 2;wipe 7;dim 1 3 3;" = 3
            count(1) = 0
            """);
        String all = """
            wave 0: all 16 0
            take(0, 0, 1, 1) = 16
            take(1, 0, 1, 2) = 0
            take(2, 0, 1, 1) = 16
            lose(2, 0) = 255
            take(3, 0, 1, 2) = 0
            """ + Runs.each(0, 7, "lose(3, #) = 128") + "take(4, 1, 1, 1) = 0\n";
        Runs.says("2 PLATES,", "count(2) = 0\n" + all + "count(2) = 5\ntake(0, 0, 0, 1) = 16\ncount(2) = 5\n");
        Runs.says("3 CLEAR (FULLY, too),", "count(3) = 0\n" + all + "count(3) = 3\nlose(4, 0) = 0\ncount(3) = 2\n");
        Runs.says("4 FULLY,", "count(4) = 0\n" + all + "count(4) = 2\nlose(4, 0) = 0\ncount(4) = 1\n");
        Runs.says("5 TORN (BLIND, too),", "count(5) = 0\n" + all + "count(5) = 2\nlose(4, 0) = 0\ncount(5) = 3\n");
        Runs.says("6 BLIND ones,", "count(6) = 0\n" + all + "count(6) = 1\nlose(4, 0) = 0\ncount(6) = 1\n");
        Runs.says("7 bytes on the tape.", """
            count(7) = 0
            feed(0x2020, 2) = 2
            count(7) = 2
            feed(0x20, 9) = BAD
            count(7) = 2
            run() = 0
            count(7) = 0
            """);
        Runs.says("7 bytes on the tape. BAD.", """
            count(-1) = BAD
            count(8) = BAD
            count(MIN) = BAD
            count(MAX) = BAD
            count(7) = 0
            """);
    }

    private static void status() {
        Runs.says("Of the latest call with a SHEET or a PLATE (but take()) that was not BAD, STATE, FULL: the number of its FINDING;", """
            drop(0) = NULL
            status() = 1
            status() = 1
            set(8, 0, 0) = BAD
            status() = 1
            wave 0: 0 1000 1
            kind(5) = NULL
            take(0, 0, 1, 9901) = 0
            status() = 1
            read(0, 0, 1) = FULL
            status() = 1
            take(1, 0, 1, 1) = 1
            take(2, 0, 1, 1) = 1
            take(3, 0, 1, 1) = 1
            off(0, 0) = STATE
            status() = 1
            as(0, 3) = KIND
            status() = 3
            """);
        Runs.says("0: it had none, or there was none.", """
            status() = 0
            take(0, 0, 0, 1) = 0
            status() = 0
            kind(1) = NULL
            status() = 1
            kind(0) = 2
            status() = 0
            """);
    }

    /** Each call, behind a finding and with none of its own: those with a SHEET or a PLATE say 0, the others leave it. */
    private static void statusOfEachCall() {
        String ahead = "sheet(0, 2, 64)\nsheet(1, 2, 64)\n" + Runs.each(0, 4, "take(#, 0, 0, 1)") + "kind(5) = NULL\nstatus() = 1\n";
        String[] saying = {"sheet(2, 0, 1) = 1", "set(0, 0, 1) = 1", "copy(0, 0, 1, 0, 0) = 0", "drop(1) = 64", "lay(0, 0, 0) = 1",
            "lose(0, 0) = 0", "grain(0, 0) = 0", "grain(0, -1) = 1", "read(0, 0, 0) = 1", "off(0, 0) = 1", "lack(0, 1, 0) = 0",
            "fits(0, 0, 0, 0) = 0", "fits(0, 0, 0, 1) = NONE", "fits(0, 0, 0, -1) = 1", "fits(0, 0, 0, -2) = 1", "mark(0, 0, 0) = 0",
            "mark(0, 0, 1) = 65536", "kind(0) = 2", "as(0, 0) = 1", "ask(0, 0) = 2", "ask(0, 1) = 1002"};
        for (String call : saying) {
            Runs.says("Of the latest call with a SHEET or a PLATE", ahead + call + "\nstatus() = 0\n");
        }
        String[] leaving = {"feed(32, 1) = 1", "feed(32, 9) = BAD", "run() = 0", "fault \"x\" = 0 1", "fault() = 0", "way(0, 0) = 1",
            "way(0, 1) = 1", "part(0, 0, 0) = 0", "bright(0, 0) = 0", "moved(0, 0, 0) = NONE", "take(0, 0, 0, 1) = 0",
            "take(5, 0, 0, 1) = 0", "take(6, 0, 0, 1) = BAD", "parts(0, 0, 0, 0) = 1", "aim(0, 0, 0, 0, 0) = 256", "trace(0) = NONE",
            "count(2) = 5", "count(0) = 2", "count(9) = BAD", "status() = 1"};
        for (String call : leaving) {
            Runs.says("(but take())", ahead + call + "\nstatus() = 1\n");
        }
    }

    /** An ITEM may be the number of a refusal, and is none. */
    private static void itemsThatLookLikeFindings() {
        Check.says("the number of its FINDING; 0: it had none, or there was none.");
        for (int v = Check.STORE; v <= Check.NONE; v++) {
            GrainWaves g = new GrainWaves();
            g.sheet(0, 2, 1);
            g.drop(1);
            Check.due("set(0, 0, " + v + ")", g.set(0, 0, v), v);
            Check.status(g, "set(0, 0, " + v + ")", 0);
        }
    }
}
