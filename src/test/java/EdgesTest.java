import java.util.Arrays;

/**
 * The document's boundaries, sentence by sentence, each from both sides. says() has the sentence (or the
 * words of it that bound something); the answers below it would be others if the boundary were one off.
 * Which refusal is due where several fit, and that it changes nothing, RefusalsTest has for all calls.
 */
public final class EdgesTest {
    private static final int MIN = Integer.MIN_VALUE;
    private static final int MAX = Integer.MAX_VALUE;
    private static final String NINE = "c00eeeeeeeee;";
    private static final String LONGEST = NINE.repeat(5) + "c00eee;";
    private static final String SIX_ROCKS = "r030425;r100049;r000766;r999909;r000000;r505055;";
    private static final Due DUE = new Due("EdgesTest");

    private static PaidByCoast x;
    private static int[] refusals;

    public static void main(String[] args) {
        theObject();
        newObject();
        feed();
        coastThatComes();
        coastByLetters();
        coastByNeighbours();
        coastLetterFaultFirst();
        coastStatementFault();
        coastNoRoom();
        coastFaultChangesNothing();
        stretch();
        dry();
        fee();
        point();
        shore();
        tide();
        walkBegins();
        walkSteps();
        walkEnds();
        walkRefused();
        place();
        bestWhich();
        bestEnds();
        span();
        finer();
        two();
        twoRefused();
        map();
        mapEnds();
        rock();
        islands();
        hours();
        boat();
        cut();
        worstCut();
        copy();
        sure();
        row();
        judge();
        seeds();
        seedsByDraws();
        byTheTideAsItIs();
        image();
        restore();
        count();
        DUE.end();
    }

    // ---- how the sentences are asked

    private static void says(String sentence) {
        DUE.part(sentence);
    }

    private static void made() {
        x = new PaidByCoast();
        refusals = new int[6];
    }

    /** A new object to which a text has come. */
    private static void on(String text) {
        made();
        Ask.feedAll(x, text);
        DUE.that(text + " comes", x.coast() >= 1);
    }

    private static void onAt(String text, int tide) {
        on(text);
        x.tide(tide);
    }

    /** What a call answers that is not refused. */
    private static void due(String call, int want) {
        DUE.is(call, Ask.told(x, call), want);
        countsAreDue(call);
    }

    private static void refused(String call, int want) {
        DUE.is(call, Ask.told(x, call), want);
        int number = want > 999999999 ? want - 1000000000 : -want;
        refusals[number - 1]++;
        countsAreDue(call);
    }

    private static void countsAreDue(String call) {
        for (int i = 0; i < refusals.length; i++) {
            DUE.is("how many -" + (i + 1) + " behind " + call, x.count(11 + i), refusals[i]);
        }
    }

    private static void text(String text, int want) {
        Ask.feedAll(x, text);
        DUE.is("coast() of " + text, x.coast(), want);
        due("count 5", 0);
    }

    /** A text told to a new object, to which nothing comes. */
    private static void fault(String text, int want) {
        made();
        text(text, want);
        due("count 0", 0);
        due("count 1", 0);
        due("count 2", 0);
        due("count 4", 0);
    }

    private static void comes(String text, int want) {
        made();
        text(text, want);
    }

    // ---- what the document says

    private static void theObject() {
        says("An object is used for at most 512 calls after it has been made");
        made();
        for (int call = 1; call < 512; call++) {
            x.tide(call % 10);
        }
        DUE.is("the 512th call", x.tide(0), 1);
        made();
        for (int i = 0; i < 80; i++) {
            x.feed('t');
        }
        for (int call = 81; call < 512; call++) {
            DUE.is("feed() as call " + call, x.feed('t'), -6);
        }
        DUE.is("coast() as call 512", x.coast(), -1001);
    }

    private static void newObject() {
        says("PaidByCoast(): No YARDS, TIDE 0.");
        made();
        due("count 1", 0);
        due("tide 0", 0);
        due("count 0", 0);
        due("count 4", 0);
        due("count 5", 0);
        due("count 6", 0);
        due("count 7", 0);
        says("PLACE 0 is always on shore");
        due("count 3", 1);
        due("shore 0", 1);
        due("point 0 0", 0);
        due("point 0 1", 0);
        refused("shore 1", -1);
        refused("point 1 0", 1000000001);
        refused("stretch 0 0", -1);
        refused("rock 0 0", -1);
        refused("cut 0 1", -1);
    }

    private static void feed() {
        says("A letter comes: how many there are. -4");
        made();
        due("feed 0", 1);
        refused("feed -1", -4);
        refused("feed " + MIN, -4);
        due("feed 1", 2);
        says("-6 (255; 80, too)");
        due("feed 254", 3);
        due("feed 255", 4);
        refused("feed 256", -6);
        refused("feed " + MAX, -6);
        due("count 5", 4);
        for (int i = 5; i <= 80; i++) {
            due("feed 110", i);
        }
        refused("feed 110", -6);
        refused("feed 256", -6);
        refused("feed -1", -4);
        due("count 5", 80);
        says("A COAST is told in letters, one by one (80 at most)");
        made();
        Ask.feedAll(x, "r990000;r009909;c00nnn;" + "t1;".repeat(18) + "t7;");
        refused("feed 59", -6);
        due("coast", 22);
        due("count 2", 7);
        due("count 5", 0);
        due("feed 0", 1);
    }

    private static void coastThatComes() {
        says("how many STATEMENTS");
        comes("t0;", 1);
        comes("t9;", 1);
        due("count 2", 9);
        comes("t1;".repeat(26), 26);
        says("\"c\" KIND, FIGURE (a digit each), 1 to 9 of n, e, s, w");
        comes("c00n;", 1);
        due("stretch 0 2", 1);
        comes("c59wwwwwwwww;", 1);
        due("stretch 0 0", 5);
        due("stretch 0 1", 9);
        due("stretch 0 2", 9);
        says("\"r\" x, y (2 digits each), LOW, HIGH (a digit each)");
        comes("r000000;", 1);
        comes("r999999;", 1);
        due("rock 0 0", 99);
        due("rock 0 1", 99);
        due("rock 0 2", 9);
        due("rock 0 3", 9);
        comes("r102009;", 1);
        due("rock 0 0", 10);
        due("rock 0 1", 20);
        due("rock 0 2", 0);
        due("rock 0 3", 9);
        says("Without FAULT all of it comes");
        comes("t3;c00n;r000000;c00e;t8;", 5);
        due("count 0", 2);
        due("count 2", 8);
        due("count 4", 1);
        due("point 2 0", 1);
        due("point 2 1", 1);
    }

    private static void coastByLetters() {
        says("At least one STATEMENT");
        fault("", -1000);
        says("kind 1 the place (from 0) of the first letter with which no COAST can go on (the end, if something lacks)");
        fault("c", -1001);
        fault("c0", -1002);
        fault("c00", -1003);
        fault("c00;", -1003);
        fault("c000n;", -1003);
        fault("c00n", -1004);
        fault("c00nnnnnnnnn", -1012);
        fault("c00nnnnnnnnnn;", -1012);
        fault("r", -1001);
        fault("r0", -1002);
        fault("r00", -1003);
        fault("r000", -1004);
        fault("r0000", -1005);
        fault("r00000", -1006);
        fault("r00000;", -1006);
        fault("r000000", -1007);
        fault("r0000000;", -1007);
        fault("t", -1001);
        fault("t;", -1001);
        fault("t0", -1002);
        fault("t00;", -1002);
        fault("t0;;", -1003);
        fault("t0;c", -1004);
        fault("n", -1000);
        fault("0", -1000);
        fault(";", -1000);
        says("whether 80 would be enough is not looked at");
        fault("t1;".repeat(26) + "t1", -1080);
        fault("t1;".repeat(26) + "c0", -1080);
        fault("t1;".repeat(25) + "c00nn", -1080);
        fault("t1;".repeat(26) + "tt", -1079);
        fault("t1;".repeat(26) + "t", -1079);
    }

    /** Letters beside those that a statement is made of, and the ends of all letters. */
    private static void coastByNeighbours() {
        says("no other letter than the one that is told");
        for (char letter : "bdqsuBCDRT\0\377".toCharArray()) {
            fault(letter + "00n;", -1000);
        }
        for (char letter : "/:\0\377".toCharArray()) {
            fault("c" + letter + "0n;", -1001);
            fault("c0" + letter + "n;", -1002);
            fault("t" + letter + ";", -1001);
            for (int i = 0; i < 6; i++) {
                fault("r" + "0".repeat(i) + letter, -1001 - i);
            }
        }
        for (char letter : "mdfortvxNESW\0\377".toCharArray()) {
            fault("c00" + letter, -1003);
            fault("c00n" + letter, -1004);
        }
        for (char letter : ":<\0\377".toCharArray()) {
            fault("t0" + letter, -1002);
            fault("c00n" + letter, -1004);
            fault("r000000" + letter, -1007);
        }
    }

    private static void coastLetterFaultFirst() {
        says("kind 1 ..; else kind 2");
        fault("c60n;c", -1006);
        fault("c60n;", -2000);
        fault("c60n", -1004);
        fault("r000010;t", -1009);
        fault("t1;c60n;t;", -1009);
        fault("c00n;".repeat(9) + "x", -1045);
    }

    private static void coastStatementFault() {
        says("kind 2 ..: a number out of range");
        comes("c50n;", 1);
        for (int kind = 6; kind <= 9; kind++) {
            fault("c" + kind + "0n;", -2000);
        }
        says("LOW above HIGH");
        for (int low = 0; low <= 9; low++) {
            for (int high = 0; high <= 9; high++) {
                String text = "r0000" + low + high + ";";
                if (low > high) {
                    fault(text, -2000);
                } else {
                    comes(text, 1);
                }
            }
        }
        says("the place of the first letter of the first STATEMENT that is not as it must be");
        fault("t1;c60n;", -2003);
        fault("t1;c60n;c70n;", -2003);
        fault("r000000;r000010;c60n;", -2008);
        fault("t1;".repeat(24) + "r000010;", -2072);
        fault("t1;".repeat(25) + "c60n;", -2075);
    }

    private static void coastNoRoom() {
        says("no room for more: STRETCHES 0 .. 7");
        comes("c00n;".repeat(8), 8);
        text("c00n;", -2000);
        due("count 0", 8);
        fault("c00n;".repeat(9), -2040);
        on("c00n;".repeat(7));
        text("c00n;c00n;", -2005);
        due("count 0", 7);
        text("c00n;", 1);
        due("stretch 7 3", 8);
        says("no room for more: 48 YARDS at most");
        comes(LONGEST, 6);
        due("count 1", 48);
        text("c00n;", -2000);
        text("t3;r000000;", 2);
        fault(NINE.repeat(5) + "c00eeee;", -2065);
        on(NINE.repeat(4) + "c00eee;");
        text("c00eeeeeeeee;", 1);
        due("count 1", 48);
        on(NINE.repeat(4) + "c00eeee;");
        text("c00eeeeeeeee;", -2000);
        due("count 1", 40);
        text("c00eeeeeeee;c20e;", -2012);
        due("count 1", 40);
        text("c00eeeeeeee;", 1);
        due("count 1", 48);
        says("no room for more: ROCKS 0 .. 5");
        comes(SIX_ROCKS, 6);
        text("r000000;", -2000);
        due("count 4", 6);
        fault(SIX_ROCKS + "r000000;", -2048);
        on(SIX_ROCKS.substring(8));
        text("t1;r010101;r020202;", -2011);
        due("count 4", 5);
        due("count 2", 0);
        text("r010101;", 1);
        due("rock 5 0", 1);
    }

    private static void coastFaultChangesNothing() {
        says("The letters, which are no more then (with a FAULT neither); the FAULT (nothing is counted)");
        on("c00ne;r010203;t4;");
        String[] faults = {"t9;r000000;c00s;x", "t9;r000000;c00s;c60n;", "t9;c00s;r000010;", "t9;c11w;" + "r000000;".repeat(6)};
        int[] answers = {-1016, -2016, -2008, -2048};
        for (int i = 0; i < faults.length; i++) {
            text(faults[i], answers[i]);
            due("count 0", 1);
            due("count 1", 2);
            due("count 2", 4);
            due("count 4", 1);
            refused("point 3 0", 1000000001);
        }
        due("feed 99", 1);
        due("coast", -1001);
        text("c00s;", 1);
        due("point 3 0", 1);
        due("point 3 1", 0);
        says("neither the ROW nor the image has to do with the letters");
        due("image", 3);
        due("row 0", 1);
        text("t9;c60n;", -2003);
        text("t9;c60n", -1007);
        text("c00n;", 1);
        due("count 6", 1);
        due("restore", 3);
        due("count 2", 4);
    }

    private static void stretch() {
        says("KIND (what 0), FIGURE (1), YARDS (2), the first PLACE at its end of a YARD (3), 1 DRY now (4), FEE (5)");
        onAt("c39n;c47eeeeeeeee;", 7);
        int[][] due = {{3, 9, 1, 1, 1, 10}, {4, 7, 9, 2, 0, 4}};
        for (int stretch = 0; stretch < 2; stretch++) {
            for (int what = 0; what <= 5; what++) {
                due("stretch " + stretch + " " + what, due[stretch][what]);
            }
        }
        says("KINDS: 0 SHORE; 1 SAND; 2 RIVER; 3 CLIFF; 4 MARSH; 5 WALL; FIGURE 0 .. 9; 1 to 9 YARDS");
        for (int kind = 0; kind <= 5; kind++) {
            for (int figure = 0; figure <= 9; figure++) {
                int yards = 1 + (kind + figure) % 9;
                on("c" + kind + figure + "n".repeat(yards) + ";");
                due("stretch 0 0", kind);
                due("stretch 0 1", figure);
                due("stretch 0 2", yards);
                due("stretch 0 3", 1);
            }
        }
        stretchRefused();
    }

    private static void stretchRefused() {
        says("stretch: -1; -2");
        onAt("c39n;c47eeeeeeeee;", 7);
        refused("stretch 2 0", -1);
        refused("stretch -1 0", -1);
        refused("stretch 2 6", -1);
        refused("stretch 1 6", -2);
        refused("stretch 0 -1", -2);
        refused("stretch 0 " + MIN, -2);
        refused("stretch 0 " + MAX, -2);
        says("STRETCHES 0 .. 7");
        on("c00n;".repeat(7) + "c20nnnnnnnnn;");
        due("stretch 7 0", 2);
        due("stretch 7 2", 9);
        due("stretch 7 3", 8);
        refused("stretch 8 0", -1);
        says("some YARDS one behind the other: the last of 48");
        on("c00nnnnnnnnn;".repeat(5) + "c00nn;c20n;");
        due("stretch 6 3", 48);
    }

    /** Whether the only stretch is dry at each tide, as 1 or 0 in a row. */
    private static void dryAt(String stretch, String due) {
        for (int tide = 0; tide <= 9; tide++) {
            onAt(stretch, tide);
            int dry = due.charAt(tide) - '0';
            due("stretch 0 4", dry);
            due("shore 1", dry);
            due("shore 0", 1);
            due("count 3", 1 + dry);
            due("walk 1 1 3", dry == 1 ? 1 : -9);
        }
    }

    private static void dry() {
        says("SHORE always");
        dryAt("c00n;", "1111111111");
        dryAt("c09n;", "1111111111");
        says("SAND if TIDE is no more than FIGURE");
        dryAt("c10n;", "1000000000");
        dryAt("c14n;", "1111100000");
        dryAt("c18n;", "1111111110");
        dryAt("c19n;", "1111111111");
        says("RIVER never");
        dryAt("c20n;", "0000000000");
        dryAt("c29n;", "0000000000");
        says("CLIFF as a SHORE");
        dryAt("c30n;", "1111111111");
        dryAt("c39n;", "1111111111");
        says("MARSH as a SAND, but only if TIDE is even");
        dryAt("c40n;", "1000000000");
        dryAt("c41n;", "1000000000");
        dryAt("c42n;", "1010000000");
        dryAt("c47n;", "1010101000");
        dryAt("c48n;", "1010101010");
        dryAt("c49n;", "1010101010");
        says("WALL as a CLIFF, unless TIDE is FIGURE");
        dryAt("c50n;", "0111111111");
        dryAt("c55n;", "1111101111");
        dryAt("c59n;", "1111111110");
    }

    private static void fee() {
        says("FEE: SHORE 1; SAND a SHORE's and 1; RIVER 0; CLIFF a SHORE's and FIGURE; MARSH twice a SAND's; WALL a CLIFF's less 1");
        int[][] due = {{1, 1, 1}, {2, 2, 2}, {0, 0, 0}, {1, 2, 10}, {4, 4, 4}, {0, 1, 9}};
        int[] figures = {0, 1, 9};
        for (int kind = 0; kind <= 5; kind++) {
            for (int i = 0; i < figures.length; i++) {
                on("c" + kind + figures[i] + "n;");
                due("stretch 0 5", due[kind][i]);
                due("count 7", due[kind][i]);
            }
        }
    }

    private static void point() {
        says("n (y one more), e (x one more), s (y one less), w (x one less)");
        on("c00nnesswwwn;");
        int[] xs = {0, 0, 0, 1, 1, 1, 0, -1, -2, -2};
        int[] ys = {0, 1, 2, 2, 1, 0, 0, 0, 0, 1};
        for (int place = 0; place <= 9; place++) {
            due("point " + place + " 0", xs[place]);
            due("point " + place + " 1", ys[place]);
        }
        says("Refused as told: -1; -2, of point() 1000000000 less them");
        refused("point 10 0", 1000000001);
        refused("point -1 0", 1000000001);
        refused("point " + MAX + " 0", 1000000001);
        refused("point " + MIN + " 0", 1000000001);
        refused("point 10 2", 1000000001);
        refused("point 9 2", 1000000002);
        refused("point 0 -1", 1000000002);
        refused("point 0 " + MIN, 1000000002);
        refused("point 0 " + MAX, 1000000002);
        says("a coordinate below 0 is no refusal; 48 YARDS at most");
        on(LONGEST.replace('e', 'w'));
        for (int place = 0; place <= 48; place++) {
            due("point " + place + " 0", -place);
            due("point " + place + " 1", 0);
        }
        refused("point 49 0", 1000000001);
        on(LONGEST.replace('e', 's'));
        due("point 48 1", -48);
        on(LONGEST.replace('e', 'n'));
        due("point 48 1", 48);
        on(LONGEST);
        due("point 48 0", 48);
    }

    private static void shore() {
        says("PLACES: 0 the beginning, k the end of YARD k; PLACE 0 always, another one if its YARD's STRETCH is DRY");
        on("c20nn;c00nn;c20nn;");
        int[] due = {1, 0, 0, 1, 1, 0, 0};
        for (int place = 0; place <= 6; place++) {
            due("shore " + place, due[place]);
        }
        says("-1");
        refused("shore 7", -1);
        refused("shore -1", -1);
        refused("shore " + MIN, -1);
        refused("shore " + MAX, -1);
        on(LONGEST);
        due("shore 48", 1);
        refused("shore 49", -1);
    }

    private static void tide() {
        says("TIDE becomes v: what it was. -4; -6 9");
        made();
        due("tide 9", 0);
        due("tide 1", 9);
        refused("tide 10", -6);
        refused("tide -1", -4);
        refused("tide " + MAX, -6);
        refused("tide " + MIN, -4);
        due("tide 0", 1);
        due("tide 8", 0);
        due("count 2", 8);
    }

    private static void facts(String walk, int... due) {
        for (int what = 0; what < due.length; what++) {
            due(walk + " " + what, due[what]);
        }
    }

    private static void walkBegins() {
        says("it begins at the first PLACE on shore of number b or more");
        on("c20nn;c00nnn;c20nnn;c00n;");
        int[] begins = {0, 3, 3, 3, 4, 5, 9, 9, 9, 9};
        for (int begin = 0; begin <= 9; begin++) {
            due("place 9 " + begin + " 0", begins[begin]);
        }
        says("No PLACE to begin at: 0 of all this, -9 where it ends");
        on("c00n;");
        facts("walk 1 1", 0, 0, 0, 1, 0);
        facts("walk 1 2", 0, 0, 0, -9, 0);
        facts("walk 9 9", 0, 0, 0, -9, 0);
        due("place 1 1 0", 1);
        due("place 1 2 0", -9);
        on("c00nnnnnnnn;c20n;");
        facts("walk 1 8", 0, 0, 0, 8, 0);
        facts("walk 1 9", 0, 0, 0, -9, 0);
        made();
        facts("walk 1 0", 0, 0, 0, 0, 0);
        facts("walk 1 1", 0, 0, 0, -9, 0);
    }

    private static void walkSteps() {
        says("to the first PLACE on shore further on whose distance from there (as the crow flies) is r or more");
        on(NINE);
        for (int rod = 1; rod <= 9; rod++) {
            due("place " + rod + " 0 1", rod);
            due("walk " + rod + " 0 0", 9 / rod);
            due("walk " + rod + " 0 1", 9 / rod * rod);
        }
        on("c00eeee;c00eeee;");
        due("walk 8 0 0", 1);
        due("walk 9 0 0", 0);
        says("the distance 5 of 3 and 4; no more than 5 of 4 and 2, and of 5 and 1");
        on("c20eeennn;c00n;");
        due("walk 5 0 0", 1);
        due("walk 6 0 0", 0);
        on("c20eeeen;c00n;");
        due("walk 4 0 0", 1);
        due("walk 5 0 0", 0);
        on("c20eeeee;c00n;");
        due("walk 5 0 0", 1);
        due("walk 6 0 0", 0);
        says("the distance is from where the STEP begins, whichever way the coast goes");
        on("c00wwwsssss;c00nnnee;");
        due("place 5 0 1", 7);
        due("walk 5 0 0", 1);
        on("c00nnssss;");
        due("place 2 0 1", 2);
        due("place 2 0 2", 4);
        due("place 2 0 3", 6);
        says("a PLACE that is not on shore ends no STEP");
        on("c00ee;c20e;c00eee;");
        due("place 3 0 1", 4);
        due("walk 3 0 0", 1);
    }

    private static void walkEnds() {
        says("PAY: MILES, and of each STEP the FEE of the STRETCH in which it ends");
        onAt("c37e;c50e;c19e;c49e;", 2);
        facts("walk 1 0", 4, 4, 4 + 8 + 0 + 2 + 4, 4, 0);
        facts("walk 1 1", 3, 3, 3 + 0 + 2 + 4, 4, 0);
        facts("walk 2 0", 2, 4, 4 + 0 + 4, 4, 0);
        facts("walk 4 0", 1, 4, 8, 4, 0);
        facts("walk 5 0", 0, 0, 0, 0, 4);
        says("OVER: PLACES on shore behind the one where it ends");
        on("c00eeeee;c20e;c00ee;");
        facts("walk 3 0", 2, 6, 8, 7, 1);
        facts("walk 4 0", 2, 8, 10, 8, 0);
        facts("walk 5 0", 1, 5, 6, 5, 2);
        facts("walk 9 0", 0, 0, 0, 0, 7);
        facts("walk 9 8", 0, 0, 0, 8, 0);
        says("the STRETCH in which it ends: each of 8");
        onAt("c31e;c32e;c33e;c34e;c35e;c36e;c37e;c38e;", 9);
        int[] pays = {1 + 9, 2 + 8 + 9, 3 + 7 + 8 + 9, 4 + 6 + 7 + 8 + 9, 5 + 5 + 6 + 7 + 8 + 9, 6 + 4 + 5 + 6 + 7 + 8 + 9};
        for (int steps = 1; steps <= 6; steps++) {
            due("walk 1 " + (8 - steps) + " 2", pays[steps - 1]);
        }
        due("walk 8 0 2", 8 + 9);
        due("walk 7 0 2", 7 + 8);
        says("till there is none: the last of 48 YARDS");
        on(LONGEST);
        facts("walk 1 0", 48, 48, 96, 48, 0);
        facts("walk 1 9", 39, 39, 78, 48, 0);
        facts("walk 8 0", 6, 48, 54, 48, 0);
        facts("walk 8 1", 5, 40, 45, 41, 7);
        facts("walk 9 0", 5, 45, 50, 45, 3);
        facts("walk 9 3", 5, 45, 50, 48, 0);
    }

    private static void walkRefused() {
        says("walk: -2; -4 (ROD below 1, beginning below 0); -6 (9)");
        on(NINE);
        refused("walk 1 0 -1", -2);
        refused("walk 1 0 5", -2);
        due("walk 1 0 0", 9);
        due("walk 1 0 4", 0);
        refused("walk 0 0 0", -4);
        refused("walk 1 -1 0", -4);
        refused("walk 10 0 0", -6);
        refused("walk 1 10 0", -6);
        due("walk 9 0 0", 1);
        due("walk 9 9 0", 0);
        refused("walk 0 -1 5", -2);
        refused("walk 10 10 5", -2);
        refused("walk 0 10 0", -4);
        refused("walk 10 -1 0", -4);
    }

    private static void place() {
        says("The PLACE behind i STEPS of it (0: where it begins); -9 none such");
        on(NINE);
        due("place 2 1 0", 1);
        due("place 2 1 4", 9);
        due("place 2 1 5", -9);
        due("place 2 1 " + MAX, -9);
        due("place 9 1 1", -9);
        says("-4 (i, too); -6 (9)");
        refused("place 2 1 -1", -4);
        refused("place 2 1 " + MIN, -4);
        refused("place 10 10 -1", -4);
        refused("place 0 10 0", -4);
        refused("place 10 -1 0", -4);
        refused("place 10 0 0", -6);
        refused("place 1 10 0", -6);
        says("the 48 STEPS of 48 YARDS");
        on(LONGEST);
        due("place 1 0 9", 9);
        due("place 1 0 10", 10);
        due("place 1 0 47", 47);
        due("place 1 0 48", 48);
        due("place 1 0 49", -9);
    }

    private static void bestWhich() {
        says("as 10 times the ROD and the beginning; of several the first by RODS, then beginnings");
        made();
        for (int what = 0; what <= 2; what++) {
            due("best " + what + " 0", 10);
            due("best " + what + " 1", 0);
        }
        // A river behind 0: all beginnings but 0 begin at 2, and nothing is gained there.
        on("c20e;c00e;");
        due("best 0 0", 20);
        due("best 0 1", 3);
        due("best 1 0", 11);
        due("best 1 1", 0);
        due("best 2 0", 20);
        due("best 2 1", 2);
        // Six yards: 6 miles by the rods 1, 2, 3 and 6.
        on("c00eeeeee;");
        due("best 2 0", 10);
        due("best 2 1", 6);
        due("best 0 0", 10);
        due("best 0 1", 12);
        due("best 1 0", 16);
        // The beginnings 1 and 2 both begin at 2, from which alone 13 is 9 yards off: the first is 1.
        on("c20n;c00w;c20neeeeeeee;c20e;c00s;");
        due("best 2 0", 91);
        due("best 2 1", 9);
        says("that with most PAY (what 0), least PAY (1), most MILES (2); how much that is");
        on("c39e;c00eeeeeeeee;");
        due("best 0 0", 10);
        due("best 0 1", 10 + 10 + 9);
        due("best 1 0", 29);
        due("best 1 1", 0);
        due("best 2 0", 10);
        due("best 2 1", 10);
        says("best: -2 either");
        refused("best -1 0", -2);
        refused("best 3 0", -2);
        refused("best 0 -1", -2);
        refused("best 0 2", -2);
        refused("best 3 2", -2);
    }

    private static void bestEnds() {
        says("of all RODS, and beginnings (0 .. 9): the last of both");
        // From -1, 0 (place 9) alone the place 8, 0 is 9 yards off; 0 to 8 are nearer to it.
        on("c20nsnsnsn;c00s;c00w;c20neeeeeeee;c20e;c00s;");
        due("best 0 0", 99);
        due("best 0 1", 10);
        due("best 2 0", 99);
        due("best 2 1", 9);
        due("walk 9 8 1", 0);
        // From 9 alone 17 is nearer than 9 yards.
        on(NINE + "c00eeeeeeee;");
        due("best 1 0", 99);
        due("best 1 1", 0);
        says("of all RODS: none above 9");
        on("c20eeeeeeeee;c00e;");
        due("best 0 0", 90);
        due("best 0 1", 10);
        due("best 2 0", 90);
        due("best 2 1", 9);
        says("of all RODS, and beginnings: the first of both");
        on("c00e;");
        due("best 0 0", 10);
        due("best 0 1", 2);
        due("best 1 0", 11);
        due("best 1 1", 0);
        due("best 2 0", 10);
        due("best 2 1", 1);
    }

    private static void span() {
        says("the most MILES less the least of all beginnings: 9 alone has the most");
        on("c20nsnsnsn;c00s;c00w;c20neeeeeeee;c20e;c00s;");
        due("span 9", 9);
        due("span 8", 0);
        says("9 alone has the least");
        on(NINE + "c00eeeeeeee;");
        due("span 9", 9);
        due("span 8", 8);
        says("0 alone has the most");
        on("c20e;c00e;");
        due("span 1", 1);
        due("span 2", 2);
        due("span 3", 0);
        says("0 alone has the least");
        // 0 is but 8 yards from 11, and all behind it begin at 1, which is 9 from it.
        on("c00w;c20neeeeeeee;c20e;c00s;");
        due("walk 9 0 1", 0);
        due("walk 9 1 1", 9);
        due("span 9", 9);
        says("No PLACE to begin at: 0 of all this, also in II");
        on("c00eeeeeeee;");
        due("span 1", 8);
        due("span 8", 8);
        due("span 9", 0);
        made();
        due("span 1", 0);
        says("span: -4; -6 9");
        refused("span 0", -4);
        refused("span 10", -6);
        due("span 9", 0);
    }

    private static void finer() {
        says("how many RODS r (2 .. 9) there are with which one has more MILES than with r less 1");
        on("c20eeeeeeee;c00e;");
        due("finer 0", 8);
        due("finer 1", 0);
        on("c20eeeeeee;c00e;");
        due("finer 0", 7);
        on("c20eeeeeeeee;c00e;");
        due("finer 0", 8);
        on("c20e;c00e;");
        due("finer 0", 1);
        says("more: not as many");
        on("c00eeeeee;");
        // Miles by rods: 6, 6, 6, 4, 5, 6, 0, 0, 0.
        due("finer 0", 2);
        says("from a beginning: 9");
        on("c20nsnsnsn;c00s;c00w;c20neeeeeeee;c20e;c00s;");
        due("finer 9", 8);
        due("finer 8", 6);
        says("finer: -4; -6 9");
        refused("finer -1", -4);
        refused("finer 10", -6);
        due("finer 0", 6);
    }

    private static void two(String text, int rod, int other, int ofFirst, int ofOther) {
        on(text);
        due("two " + rod + " " + other + " 0", ofFirst);
        due("two " + rod + " " + other + " 1", ofOther);
    }

    private static void two() {
        says("by turns (the first one first), as long as the one's PLACE then is below the other's");
        two("c00e;", 1, 1, 0, 0);
        two("c00ee;", 1, 1, 1, 0);
        two("c00eee;", 1, 1, 1, 1);
        two("c00eeee;", 1, 1, 2, 1);
        two("c00eeeeeeeee;", 2, 3, 4, 3);
        two("c00eeeeeeeee;", 3, 2, 6, 2);
        says("who can't go so is out, the other goes on alone");
        two("c00eeeeeeeee;", 9, 1, 0, 8);
        two("c00eeeeeeeee;", 1, 9, 8, 0);
        two("c00eeeeeeeee;", 8, 1, 8, 0);
        two("c00eeeeeeeee;", 1, 8, 8, 0);
        two("c00eeeeeeeee;", 1, 7, 1, 7);
        two("c00eeeeeeeee;", 9, 9, 0, 0);
        two("c00eeeee;c00eeeee;", 9, 9, 9, 0);
        says("one begins at PLACE 0, the other at the last PLACE on shore");
        two("c20eeee;", 1, 1, 0, 0);
        two("c00eee;c20eeeeee;", 1, 1, 1, 1);
        two("c00eee;c20eeeeee;", 9, 1, 0, 2);
        two("c20eeee;c00eeee;", 5, 1, 5, 2);
        made();
        due("two 1 1 0", 0);
        due("two 1 1 1", 0);
        says("goes back likewise: to the first PLACE on shore whose distance is r or more");
        two("c00eeennnn;", 9, 5, 0, 0);
        two("c00eeeennn;c00n;", 9, 4, 0, 4);
        two("c00eennnns;", 9, 3, 0, 3);
        says("48 YARDS at most");
        two(LONGEST, 1, 1, 24, 23);
        two(LONGEST, 9, 1, 36, 11);
        two(LONGEST, 1, 9, 11, 36);
    }

    private static void twoRefused() {
        says("two: -2; -4; -6 9");
        on(NINE);
        refused("two 1 1 2", -2);
        refused("two 1 1 -1", -2);
        refused("two 0 1 0", -4);
        refused("two 1 0 0", -4);
        refused("two 10 1 0", -6);
        refused("two 1 10 0", -6);
        refused("two 0 10 2", -2);
        refused("two 0 10 0", -4);
        refused("two 10 0 0", -4);
        due("two 9 9 0", 0);
    }

    private static void map() {
        says("how many of all RODS, beginnings (0 .. 9) and TIDES have just so many MILES; the first; -9");
        made();
        due("map 0 0", 900);
        due("map 0 1", 100);
        due("map 1 0", 0);
        due("map 1 1", -9);
        due("map " + MAX + " 0", 0);
        due("map " + MAX + " 1", -9);
        on(LONGEST);
        due("map 48 0", 60);
        due("map 48 1", 100);
        due("map 49 0", 0);
        due("map 49 1", -9);
        due("map 47 0", 10);
        due("map 47 1", 110);
        says("map: -2; -4");
        refused("map 0 -1", -2);
        refused("map 0 2", -2);
        refused("map -1 0", -4);
        refused("map " + MIN + " 1", -4);
        refused("map -1 2", -2);
    }

    private static void mapEnds() {
        says("OLD MAP: the first ROD, beginning and TIDE alone");
        on("c10e;");
        due("map 1 0", 1);
        due("map 1 1", 100);
        due("map 0 0", 899);
        due("map 0 1", 101);
        says("OLD MAP: the last ROD, beginning and TIDE alone");
        // At 9 the sand of place 9 is not dry, and 9 begins at 10, from which alone 21 is 9 yards off.
        on("c00nsn;c20sns;c00ns;c18n;c00w;c20neeeeeeee;c20e;c00s;");
        due("map 9 0", 1);
        due("map 9 1", 999);
        due("count 2", 0);
        says("all TIDES, whichever is now");
        onAt("c18e;", 9);
        due("map 1 0", 9);
        due("map 1 1", 100);
        onAt("c50e;", 0);
        due("map 1 0", 9);
        due("map 1 1", 101);
        due("count 2", 0);
        says("No PLACE to begin at: 0 of all this, also in II");
        on("c00eeeeeeee;");
        // Of the rod 8 the beginning 0 alone has miles; of the rod 9 none has.
        due("map 0 0", 10 * (2 + 3 + 4 + 5 + 6 + 7 + 8 + 9 + 10));
        due("map 0 1", 180);
    }

    private static void rock() {
        says("Of a ROCK: x (what 0), y (1), LOW (2), HIGH (3), 1 it is an ISLAND now (4)");
        on(SIX_ROCKS);
        int[][] due = {{3, 4, 2, 5, 0}, {10, 0, 4, 9, 0}, {0, 7, 6, 6, 0}, {99, 99, 0, 9, 1}, {0, 0, 0, 0, 1}, {50, 50, 5, 5, 0}};
        for (int rock = 0; rock <= 5; rock++) {
            for (int what = 0; what <= 4; what++) {
                due("rock " + rock + " " + what, due[rock][what]);
            }
        }
        says("rock: -1; -2; ROCKS 0 .. 5");
        refused("rock 6 0", -1);
        refused("rock -1 0", -1);
        refused("rock 6 5", -1);
        refused("rock 5 5", -2);
        refused("rock 0 -1", -2);
        on("r000000;");
        due("rock 0 0", 0);
        refused("rock 1 0", -1);
    }

    private static void islands() {
        says("an ISLAND, if TIDE is LOW or more and no more than HIGH; ISLANDS (bits)");
        int[] due = {24, 8, 9, 9, 11, 43, 14, 10, 10, 10};
        on(SIX_ROCKS);
        for (int tide = 0; tide <= 9; tide++) {
            x.tide(tide);
            due("islands", due[tide]);
            for (int rock = 0; rock <= 5; rock++) {
                due("rock " + rock + " 4", due[tide] >> rock & 1);
            }
        }
        on("r000000;".repeat(6));
        due("islands", 63);
        made();
        due("islands", 0);
    }

    private static void hours(String text, int howMany, int set) {
        on(text);
        due("hours 0", howMany);
        due("hours 1", set);
    }

    private static void hours() {
        says("the fewest TIDES in which all ROCKS are ISLANDS once at least; 0 there are no ROCKS");
        made();
        due("hours 0", 0);
        due("hours 1", 0);
        onAt("r000000;", 9);
        due("hours 0", 1);
        due("hours 1", 1);
        hours("r000099;", 1, 512);
        hours("r000003;r000039;", 1, 8);
        hours("r000003;r000049;", 2, 1 + 16);
        hours("r000000;r000099;", 2, 1 + 512);
        hours("r000000;r000022;r000044;r000066;r000088;r000099;", 6, 1 + 4 + 16 + 64 + 256 + 512);
        hours("r000000;r000011;r000022;r000033;r000044;r000099;", 6, 31 + 512);
        says("the least such set (as bits)");
        hours("r000009;", 1, 1);
        hours("r000025;r000049;", 1, 16);
        hours("r000014;r000069;", 2, 2 + 64);
        hours("r000028;r000057;r000069;", 1, 64);
        says("hours: -2");
        refused("hours 2", -2);
        refused("hours -1", -2);
        refused("hours " + MIN, -2);
        refused("hours " + MAX, -2);
    }

    private static void boat() {
        says("the least way (yards east, west, north, south alone) from 0, 0 by all ISLANDS of now and back; 0 there are none");
        made();
        due("boat", 0);
        on("r000011;");
        due("boat", 0);
        on("r010011;");
        due("boat", 0);
        due("tide 1", 0);
        due("boat", 2);
        due("tide 2", 1);
        due("boat", 0);
        on("r990599;".repeat(6));
        due("boat", 0);
        on("r000000;");
        due("boat", 0);
        on("r010000;");
        due("boat", 2);
        on("r000100;");
        due("boat", 2);
        on("r030400;");
        due("boat", 14);
        on("r999900;");
        due("boat", 396);
        // There and back the way by 0, 99 and 99, 0 crosses no yard less than the whole round.
        on("r009900;r990000;");
        due("boat", 396);
        on("r990000;r009900;r999900;r500000;r005000;r990000;");
        due("boat", 396);
        on("r050000;r010000;r030000;r020000;r040000;r060000;");
        due("boat", 12);
        on("r010000;r020000;r030000;r040000;r050000;r060011;");
        due("boat", 10);
        due("tide 1", 0);
        due("boat", 12);
    }

    private static void cut() {
        says("MILES with a ROD from 0, if a STRETCH were not DRY");
        on("c00ee;c20e;c00eee;");
        due("walk 2 0 1", 6);
        due("cut 0 2", 4);
        due("cut 1 2", 6);
        due("cut 2 2", 2);
        due("cut 2 3", 0);
        due("cut 0 9", 0);
        due("cut 0 1", 3);
        due("cut 2 1", 2);
        due("count 3", 6);
        says("PLACE 0 is always on shore");
        on(NINE);
        due("cut 0 1", 0);
        due("cut 0 9", 0);
        says("cut: -1; -4; -6 9");
        refused("cut 1 1", -1);
        refused("cut -1 1", -1);
        refused("cut 1 0", -1);
        refused("cut 1 10", -1);
        refused("cut 0 0", -4);
        refused("cut 0 10", -6);
        says("the last of 8 STRETCHES");
        on("c00e;".repeat(7) + "c00ee;");
        due("cut 7 1", 7);
        due("cut 6 1", 8);
        refused("cut 8 1", -1);
    }

    private static void worstCut() {
        says("the STRETCH by which that is least, of several the least; -9 there is none");
        made();
        due("worstCut 1", -9);
        due("worstCut 9", -9);
        on("c20e;");
        due("worstCut 1", 0);
        on("c00e;".repeat(8));
        due("worstCut 1", 0);
        due("worstCut 8", 7);
        due("worstCut 9", 0);
        on("c00e;".repeat(7) + "c00ee;");
        due("worstCut 1", 7);
        on("c00e;c00ee;c00ee;c00e;");
        due("worstCut 1", 1);
        says("worstCut: -4; -6 9");
        refused("worstCut 0", -4);
        refused("worstCut 10", -6);
    }

    private static void copy() {
        says("COPY of c (1 .. 9): if only the first PLACE on shore and each c-th behind it (of those on shore) were there");
        on(NINE);
        int[] miles = {9, 4, 3, 2, 1, 1, 1, 1, 1};
        for (int c = 1; c <= 9; c++) {
            due("copy " + c + " 1", miles[c - 1]);
            due("copy " + c + " " + c, 9 / c * c);
        }
        due("copy 9 9", 9);
        due("copy 8 9", 0);
        on("c00eeeeeeee;");
        due("copy 9 1", 0);
        due("copy 8 8", 8);
        on("c20e;c00ee;c20e;c00ee;");
        due("copy 2 3", 6);
        due("copy 2 4", 4);
        due("copy 2 7", 0);
        due("copy 4 6", 6);
        due("copy 3 5", 5);
        due("copy 5 1", 0);
        on(LONGEST);
        due("copy 1 1", 48);
        due("copy 8 1", 6);
        due("copy 9 1", 5);
        made();
        due("copy 1 1", 0);
        due("copy 9 9", 0);
        says("copy: -4 either; -6 9");
        refused("copy 0 1", -4);
        refused("copy 1 0", -4);
        refused("copy 10 1", -6);
        refused("copy 1 10", -6);
        refused("copy 0 10", -4);
        refused("copy 10 0", -4);
    }

    private static void sure() {
        says("how many PLACES on shore are reached by all WALKS with RODS 1 .. r from 0 (PLACE 0 too)");
        made();
        due("sure 1", 1);
        due("sure 9", 1);
        on("c20eeeeeee;c00e;");
        due("sure 1", 2);
        due("sure 8", 2);
        due("sure 9", 1);
        on("c20eeeeeeee;c00e;");
        due("sure 9", 2);
        on("c00eeeeee;");
        due("sure 1", 7);
        due("sure 2", 4);
        due("sure 3", 2);
        due("sure 4", 1);
        on(LONGEST);
        due("sure 1", 49);
        due("sure 2", 25);
        due("sure 4", 5);
        due("sure 6", 1);
        says("not even the ROD 1 reaches a PLACE at the point of the one before it on shore");
        on("c00e;c20e;c00w;");
        due("sure 1", 2);
        says("sure: -4; -6 9");
        refused("sure 0", -4);
        refused("sure 10", -6);
    }

    private static void row() {
        says("A ROW of PLACES (0 .. 48; 12 at most); A PLACE more of the ROW: how many");
        made();
        due("row 0", 1);
        due("row 48", 2);
        says("row: -4; -6 (48; 12, too)");
        refused("row -1", -4);
        refused("row 49", -6);
        refused("row " + MIN, -4);
        refused("row " + MAX, -6);
        due("count 6", 2);
        for (int i = 3; i <= 12; i++) {
            due("row 47", i);
        }
        refused("row 0", -6);
        refused("row 49", -6);
        refused("row -1", -4);
        due("count 6", 12);
        due("judge 1 0", 1);
        due("row 5", 1);
    }

    private static void judged(String rodAndBegin, int want, int... places) {
        for (int place : places) {
            x.row(place);
        }
        due("count 6", places.length);
        due("judge " + rodAndBegin, want);
        due("count 6", 0);
    }

    private static void judge() {
        says("JUDGED: the place in the ROW (from 0) of the first that is not so; -9 (the ROW may be shorter)");
        on(NINE);
        judged("3 0", -9);
        judged("3 0", -9, 0);
        judged("3 0", -9, 0, 3, 6);
        judged("3 0", -9, 0, 3, 6, 9);
        judged("3 0", 0, 1, 3, 6, 9);
        judged("3 0", 0, 3);
        judged("3 0", 1, 0, 0);
        judged("3 0", 1, 0, 4, 7);
        judged("3 0", 2, 0, 3, 5, 8);
        judged("3 0", 3, 0, 3, 6, 8);
        says("one more than the WALK has, too");
        judged("3 0", 4, 0, 3, 6, 9, 9);
        judged("3 0", 4, 0, 3, 6, 9, 12);
        judged("3 0", 4, 0, 3, 6, 9, 0);
        judged("9 9", -9, 9);
        judged("9 9", 1, 9, 18);
        says("the first is where it begins");
        judged("3 1", -9, 1, 4, 7);
        judged("3 1", 0, 0, 3, 6);
        judged("1 9", -9, 9);
        made();
        judged("1 1", -9);
        judged("1 1", 0, 1);
        judged("1 0", -9, 0);
        judged("1 0", 1, 0, 0);
        says("12 at most");
        on(NINE + NINE);
        judged("1 0", -9, 0, 1, 2, 3, 4, 5, 6, 7, 8, 9, 10, 11);
        judged("1 0", 11, 0, 1, 2, 3, 4, 5, 6, 7, 8, 9, 10, 12);
        says("-4; -6 9 (it stays)");
        due("row 0", 1);
        due("row 2", 2);
        refused("judge 0 0", -4);
        refused("judge 1 -1", -4);
        refused("judge 10 0", -6);
        refused("judge 1 10", -6);
        refused("judge 0 10", -4);
        refused("judge 10 -1", -4);
        due("count 6", 2);
        due("judge 1 0", 1);
        due("count 6", 0);
    }

    private static void seeds() {
        says("n WALKS (1 .. 60) with a seed z");
        on(NINE + NINE);
        // The draws of 1: rod 9 from 8 at 3, then rod 2 from 1 at 7.
        due("seeds 1 1", 9);
        due("seeds 2 1", 9 + 16);
        refused("seeds 0 1", -4);
        refused("seeds 61 1", -6);
        refused("seeds -1 " + MIN, -4);
        refused("seeds " + MAX + " 0", -6);
        refused("seeds " + MIN + " 0", -4);
        made();
        due("seeds 1 0", 0);
        due("seeds 60 -1", 0);
    }

    /** The miles of the lot, by draws of the document's words over long numbers and walks at their tides. */
    private static int milesOfLot(int n, int seed, boolean[][] drawn) {
        long z = seed;
        int miles = 0;
        for (int i = 0; i < n; i++) {
            int[] draws = new int[3];
            for (int k = 0; k < 3; k++) {
                z = (int) (z * 1103515245L + 12345L);
                draws[k] = (int) ((z & 0x7fffffffL) / 65536 % (k == 0 ? 9 : 10));
                drawn[k][draws[k]] = true;
            }
            x.tide(draws[2]);
            miles += x.walk(1 + draws[0], draws[1], 1);
        }
        return miles;
    }

    private static void seedsByDraws() {
        says("z becomes z times 1103515245 plus 12345 (an int, wrapping); a DRAW below n is z without its sign's bit ..");
        boolean[][] drawn = {new boolean[9], new boolean[10], new boolean[10]};
        boolean[][] all = {new boolean[9], new boolean[10], new boolean[10]};
        for (boolean[] each : all) {
            Arrays.fill(each, true);
        }
        for (int n : new int[] {1, 2, 59, 60}) {
            for (int z : new int[] {MIN, MIN + 1, -65536, -2, -1, 0, 1, 2, 65535, 65536, MAX - 1, MAX}) {
                on("c00ee;c13en;c55ee;c48enn;c20e;c37eee;c11ee;c50ene;");
                int want = milesOfLot(n, z, drawn);
                x.tide(6);
                due("seeds " + n + " " + z, want);
                due("count 2", 6);
            }
        }
        DUE.that("each ROD, beginning and TIDE was drawn", Arrays.deepEquals(drawn, all));
    }

    private static void byTheTideAsItIs() {
        says("II. By the TIDE as it is");
        String[] calls = {"walk 1 0 1", "place 1 0 2", "best 0 1", "best 2 1", "span 1", "finer 0", "two 1 1 0", "two 1 1 1",
            "cut 0 1", "worstCut 1", "copy 1 1", "sure 1"};
        // The sand is dry up to 4: then there are 5 places on shore, else 2.
        int[] dry = {4, 2, 4 + 1 + 3 * 2, 4, 4, 1, 2, 1, 3, 1, 4, 5};
        int[] wet = {1, -9, 2, 1, 1, 0, 0, 0, 0, 0, 1, 2};
        on("c00e;c14eee;");
        for (int tide : new int[] {4, 5, 0, 9}) {
            x.tide(tide);
            for (int i = 0; i < calls.length; i++) {
                due(calls[i], tide <= 4 ? dry[i] : wet[i]);
            }
            judged("1 0", tide <= 4 ? -9 : 2, 0, 1, 2);
        }
        says("of all TIDES, whichever is now");
        for (int tide = 0; tide <= 9; tide++) {
            onAt("c00e;c14eee;r000022;r000077;", tide);
            due("map 4 0", 5 + 5 + 5);
            due("map 4 1", 100);
            due("hours 1", 4 + 128);
            due("seeds 60 5", seedsOfFive());
            due("count 2", tide);
        }
    }

    private static int seedsOfFive() {
        int tide = x.count(2);
        int miles = milesOfLot(60, 5, new boolean[3][10]);
        x.tide(tide);
        return miles;
    }

    private static void image() {
        says("THE IMAGE is taken: how many YARDS");
        made();
        due("image", 0);
        on("c00e;");
        due("image", 1);
        text("c00e;", 1);
        due("image", 2);
        on(LONGEST);
        due("image", 48);
        says("all that there is, but it, letters, the ROW, REFUSALS");
        on("c14ee;c00n;r010203;t3;");
        due("feed 116", 1);
        due("row 0", 1);
        refused("shore 4", -1);
        due("image", 3);
        due("feed 48", 2);
        due("row 1", 2);
        refused("shore 5", -1);
        refused("hours 2", -2);
        due("tide 9", 3);
        due("restore", 3);
        due("count 2", 3);
        due("count 5", 2);
        due("count 6", 2);
        due("judge 1 0", -9);
        due("feed 59", 3);
        due("coast", 1);
        due("count 2", 0);
    }

    private static void restore() {
        says("-3 there is none");
        made();
        refused("restore", -3);
        refused("restore", -3);
        due("image", 0);
        due("restore", 0);
        says("It is RESTORED: how many YARDS");
        on("c14ee;c00n;r010203;t3;");
        due("image", 3);
        text("c59w;r040506;t7;", 3);
        due("count 1", 4);
        due("restore", 3);
        due("count 0", 2);
        due("count 1", 3);
        due("count 2", 3);
        due("count 4", 1);
        refused("stretch 2 0", -1);
        refused("shore 4", -1);
        refused("rock 1 0", -1);
        due("stretch 0 1", 4);
        due("stretch 1 3", 3);
        due("point 3 0", 2);
        due("point 3 1", 1);
        due("rock 0 1", 2);
        says("the image stays as it was taken, however often it is restored");
        text("c00s;t5;", 2);
        due("restore", 3);
        due("tide 0", 3);
        due("restore", 3);
        due("count 2", 3);
        due("point 3 1", 1);
        says("an image taken later is the image");
        text("c00s;", 1);
        due("image", 4);
        text("c00s;", 1);
        due("restore", 4);
        due("point 4 1", 0);
        says("a new STRETCH or ROCK comes behind those of the image");
        text("c30w;r999999;", 2);
        due("stretch 3 3", 5);
        due("point 5 0", 1);
        due("rock 1 0", 99);
        due("restore", 4);
        due("count 0", 3);
        due("count 4", 1);
        refused("rock 1 0", -1);
        refused("shore 5", -1);
        due("rock 0 0", 1);
    }

    private static void count() {
        says("0 STRETCHES, 1 YARDS, 2 TIDE, 3 PLACES on shore, 4 ROCKS, 5 letters, 6 in the ROW, 7 FEES of all STRETCHES");
        on("c39nn;c44nnn;c20n;" + SIX_ROCKS + "t5;");
        due("feed 0", 1);
        due("row 0", 1);
        due("row 0", 2);
        int[] due = {3, 6, 5, 3, 6, 1, 2, 10 + 4 + 0};
        for (int what = 0; what <= 7; what++) {
            due("count " + what, due[what]);
        }
        says("-9 for another what");
        for (int what : new int[] {MIN, -16, -11, -1, 8, 9, 10, 17, 18, MAX}) {
            due("count " + what, -9);
        }
        says("11 .. 16 REFUSALS -1 .. -6");
        refused("shore 9", -1);
        refused("best 3 0", -2);
        refused("best 3 0", -2);
        refused("restore", -3);
        refused("restore", -3);
        refused("restore", -3);
        refused("tide -1", -4);
        refused("tide 10", -6);
        refused("point 9 9", 1000000001);
        refused("point 0 9", 1000000002);
        due("count 11", 2);
        due("count 12", 3);
        due("count 13", 3);
        due("count 14", 1);
        due("count 15", 0);
        due("count 16", 1);
        says("of 48 YARDS");
        on(LONGEST);
        due("count 1", 48);
        due("count 3", 49);
        due("count 7", 6);
        on("c39n;".repeat(8));
        due("count 0", 8);
        due("count 7", 80);
    }
}
