/** Each promise by itself: ordinary calls, the edges that the document names, and wrong arguments. */
public final class PromisesTest {
    private static final int MIN = Integer.MIN_VALUE;
    private static final int MAX = Integer.MAX_VALUE;
    // Places: shore 1-3, sand 4-5, river 6-7, cliff 8-9, marsh 10-11, wall 12-13.
    private static final String ALL_KINDS = "c00eee;c15nn;c20ee;c32ss;c46ee;c53nn;";
    private static final String STRAIGHT = "c00eeeeeeeee;";
    private static final String LONGEST = "c00nnnnnnnnn;".repeat(5) + "c00nnn;";
    private static final String THREE_ROCKS = "r030425;r100049;r000766;";
    private static final Due DUE = new Due("PromisesTest");

    public static void main(String[] args) {
        newObject();
        feed();
        coast();
        coastLetterFaults();
        coastStatementFaults();
        stretch();
        dryAndFee();
        point();
        shore();
        tide();
        walk();
        place();
        best();
        span();
        finer();
        two();
        map();
        rock();
        islands();
        hours();
        boat();
        cut();
        worstCut();
        copy();
        sure();
        row();
        judge();
        seeds();
        image();
        restore();
        count();
        DUE.end();
    }

    private static void send(PaidByCoast x, String text) {
        for (int i = 0; i < text.length(); i++) {
            x.feed(text.charAt(i));
        }
    }

    private static int tell(PaidByCoast x, String text) {
        send(x, text);
        return x.coast();
    }

    private static PaidByCoast of(String text) {
        PaidByCoast x = new PaidByCoast();
        if (tell(x, text) < 1) {
            DUE.that("the text " + text + " is a coast", false);
        }
        return x;
    }

    private static PaidByCoast ofAt(String text, int tide) {
        PaidByCoast x = of(text);
        x.tide(tide);
        return x;
    }

    /** How many refusals a call has added, of its kind and of all others. */
    private static void refused(PaidByCoast x, String call, int number, int answer, int kindBefore, int allBefore) {
        DUE.is(call, answer, number);
        DUE.is(call + " counted as " + number, x.count(10 - number), kindBefore + 1);
        DUE.is(call + " counted once", all(x), allBefore + 1);
    }

    private static int all(PaidByCoast x) {
        int all = 0;
        for (int what = 11; what <= 16; what++) {
            all += x.count(what);
        }
        return all;
    }

    private interface Call {
        int ask(PaidByCoast x);
    }

    private static void refused(PaidByCoast x, String told, int number, Call call) {
        int kind = x.count(10 - number);
        int all = all(x);
        refused(x, told, number, call.ask(x), kind, all);
    }

    private static void newObject() {
        DUE.part("1 a new object");
        PaidByCoast x = new PaidByCoast();
        int[] due = {0, 0, 0, 1, 0, 0, 0, 0};
        for (int what = 0; what < due.length; what++) {
            DUE.is("count(" + what + ")", x.count(what), due[what]);
        }
        DUE.is("no refusals", all(x), 0);
        DUE.is("point(0, 0)", x.point(0, 0), 0);
        DUE.is("point(0, 1)", x.point(0, 1), 0);
        DUE.is("shore(0)", x.shore(0), 1);
        DUE.is("tide(0)", x.tide(0), 0);
        DUE.is("stretch(0, 0)", x.stretch(0, 0), -1);
        DUE.is("shore(1)", x.shore(1), -1);
        DUE.is("rock(0, 0)", x.rock(0, 0), -1);
        DUE.is("restore()", x.restore(), -3);
        DUE.is("walk(9, 0, 3)", x.walk(9, 0, 3), 0);
        DUE.is("walk(9, 9, 3)", x.walk(9, 9, 3), -9);
    }

    private static void feed() {
        DUE.part("2 feed");
        PaidByCoast x = new PaidByCoast();
        DUE.is("feed(0)", x.feed(0), 1);
        DUE.is("feed(255)", x.feed(255), 2);
        refused(x, "feed(-1)", -4, o -> o.feed(-1));
        refused(x, "feed(MIN)", -4, o -> o.feed(MIN));
        refused(x, "feed(256)", -6, o -> o.feed(256));
        refused(x, "feed(MAX)", -6, o -> o.feed(MAX));
        for (int i = 3; i <= 80; i++) {
            DUE.is("letter " + i, x.feed('n'), i);
        }
        refused(x, "an 81st", -6, o -> o.feed('n'));
        refused(x, "feed(-1) with 80", -4, o -> o.feed(-1));
        DUE.is("count(5)", x.count(5), 80);
        DUE.is("coast()", x.coast(), -1000);
        DUE.is("feed after coast()", x.feed('n'), 1);
    }

    private static void coast() {
        DUE.part("3 coast");
        PaidByCoast x = new PaidByCoast();
        DUE.is("three statements", tell(x, "c15nesw;r012345;t7;"), 3);
        DUE.is("letters", x.count(5), 0);
        DUE.is("stretches", x.count(0), 1);
        DUE.is("yards", x.count(1), 4);
        DUE.is("rocks", x.count(4), 1);
        DUE.is("tide", x.count(2), 7);
        DUE.is("rock x", x.rock(0, 0), 1);
        DUE.is("rock y", x.rock(0, 1), 23);
        DUE.is("rock low", x.rock(0, 2), 4);
        DUE.is("rock high", x.rock(0, 3), 5);
        DUE.is("a second text", tell(x, "c09ee;"), 1);
        DUE.is("stretches", x.count(0), 2);
        DUE.is("goes on where the first ended", x.point(6, 0), 2);
        DUE.is("tide stays", x.count(2), 7);
        DUE.is("tides alone", tell(x, "t1;t9;t3;"), 3);
        DUE.is("the last tide", x.count(2), 3);
        DUE.is("80 letters", tell(x, "r990000;r009909;c00nnn;" + "t1;".repeat(19)), 22);
        DUE.is("rock at 99", x.rock(1, 0), 99);
        DUE.is("a short text", tell(x, "c00nn;"), 1);
        DUE.is("an end where that text went on", tell(x, "c00n"), -1004);
    }

    private static void fault(String text, int due) {
        PaidByCoast x = new PaidByCoast();
        DUE.is("coast() of " + text, tell(x, text), due);
        DUE.is("letters then", x.count(5), 0);
        DUE.is("nothing is counted", all(x), 0);
        DUE.is("nothing has come", x.count(0) + x.count(1) + x.count(2) + x.count(4), 0);
    }

    private static void coastLetterFaults() {
        DUE.part("3 coast, faults of letters");
        fault("", -1000);
        fault("x", -1000);
        fault(";", -1000);
        fault("C00n;", -1000);
        fault("c", -1001);
        fault("c0", -1002);
        fault("c00", -1003);
        fault("c00;", -1003);
        fault("c00N;", -1003);
        fault("ca0n;", -1001);
        fault("c0:n;", -1002);
        fault("c0/n;", -1002);
        fault("c00n", -1004);
        fault("c00n,", -1004);
        fault("c00nnnnnnnnn", -1012);
        fault("c00nnnnnnnnnn;", -1012);
        fault("c00n;;", -1005);
        fault("c00n;c", -1006);
        fault("c00n; t1;", -1005);
        fault("r0000000;", -1007);
        fault("r00000;", -1006);
        fault("rx00000;", -1001);
        fault("r00000", -1006);
        fault("t", -1001);
        fault("t;", -1001);
        fault("t1", -1002);
        fault("t12;", -1002);
        fault("c90n;x", -1005);
        fault("t1;t2;c", -1007);
        StringBuilder full = new StringBuilder();
        for (int i = 0; i < 26; i++) {
            full.append("t1;");
        }
        fault(full + "t1", -1080);
        fault(full + "c9", -1080);
    }

    private static void coastStatementFaults() {
        DUE.part("3 coast, faults of statements");
        fault("c60n;", -2000);
        fault("c99n;", -2000);
        fault("t1;c60n;", -2003);
        fault("t5;c00n;r000032;t1;", -2008);
        fault("r000010;", -2000);
        fault("c00n;c00n;c00n;c00n;c00n;c00n;c00n;c00n;c00n;", -2040);
        fault(LONGEST + "c00n;", -2072);
        fault("c00nnnnnnnnn;".repeat(5) + "c00nnnn;", -2065);
        fault("r000000;r000000;r000000;r000000;r000000;r000000;r000000;", -2048);
        PaidByCoast x = of(LONGEST);
        DUE.is("48 yards", x.count(1), 48);
        DUE.is("a 49th", tell(x, "c00n;"), -2000);
        DUE.is("yards then", x.count(1), 48);
        DUE.is("tide at 48 yards", tell(x, "t1;"), 1);
        x = of("c00n;c00n;c00n;c00n;c00n;c00n;c00n;c00n;");
        DUE.is("8 stretches", x.count(0), 8);
        DUE.is("a 9th", tell(x, "t4;c00n;"), -2003);
        DUE.is("tide then", x.count(2), 0);
        x = of("r000000;r000000;r000000;r000000;r000000;r000000;");
        DUE.is("6 rocks", x.count(4), 6);
        DUE.is("a 7th", tell(x, "c00n;r000000;"), -2005);
        DUE.is("yards then", x.count(1), 0);
    }

    private static void stretch() {
        DUE.part("4 stretch");
        PaidByCoast x = of(ALL_KINDS);
        int[][] due = {{0, 0, 3, 1, 1, 1}, {1, 5, 2, 4, 1, 2}, {2, 0, 2, 6, 0, 0}, {3, 2, 2, 8, 1, 3}, {4, 6, 2, 10, 1, 4},
            {5, 3, 2, 12, 1, 3}};
        for (int i = 0; i < due.length; i++) {
            for (int what = 0; what < 6; what++) {
                DUE.is("stretch(" + i + ", " + what + ")", x.stretch(i, what), due[i][what]);
            }
        }
        refused(x, "stretch(6, 0)", -1, o -> o.stretch(6, 0));
        refused(x, "stretch(-1, 0)", -1, o -> o.stretch(-1, 0));
        refused(x, "stretch(MIN, 0)", -1, o -> o.stretch(MIN, 0));
        refused(x, "stretch(MAX, 9)", -1, o -> o.stretch(MAX, 9));
        refused(x, "stretch(0, -1)", -2, o -> o.stretch(0, -1));
        refused(x, "stretch(5, 6)", -2, o -> o.stretch(5, 6));
        DUE.is("stretch(7, 0) of 8", of("c00n;c00n;c00n;c00n;c00n;c00n;c00n;c59n;").stretch(7, 0), 5);
    }

    private static void dryAndFee() {
        DUE.part("4 stretch, dry and fee");
        for (int kind = 0; kind <= 5; kind++) {
            for (int figure = 0; figure <= 9; figure++) {
                PaidByCoast x = of("c" + kind + figure + "n;");
                int[] fees = {1, 2, 0, 1 + figure, 4, figure};
                DUE.is("fee of " + kind + figure, x.stretch(0, 5), fees[kind]);
                for (int tide = 0; tide <= 9; tide++) {
                    boolean[] dry = {true, tide <= figure, false, true, tide <= figure && tide % 2 == 0, tide != figure};
                    x.tide(tide);
                    DUE.is("dry " + kind + figure + " at " + tide, x.stretch(0, 4), dry[kind] ? 1 : 0);
                    DUE.is("shore " + kind + figure + " at " + tide, x.shore(1), dry[kind] ? 1 : 0);
                    DUE.is("place 0 at " + tide, x.shore(0), 1);
                }
            }
        }
    }

    private static void point() {
        DUE.part("5 point");
        PaidByCoast x = of("c00n;c20wwss;");
        int[][] due = {{0, 0}, {0, 1}, {-1, 1}, {-2, 1}, {-2, 0}, {-2, -1}};
        for (int i = 0; i < due.length; i++) {
            DUE.is("x of " + i, x.point(i, 0), due[i][0]);
            DUE.is("y of " + i, x.point(i, 1), due[i][1]);
        }
        DUE.is("no refusals", all(x), 0);
        DUE.is("point(6, 0)", x.point(6, 0), 1000000001);
        DUE.is("point(-1, 7)", x.point(-1, 7), 1000000001);
        DUE.is("point(MAX, 0)", x.point(MAX, 0), 1000000001);
        DUE.is("point(MIN, 0)", x.point(MIN, 0), 1000000001);
        DUE.is("count(11)", x.count(11), 4);
        DUE.is("point(0, 2)", x.point(0, 2), 1000000002);
        DUE.is("point(5, -1)", x.point(5, -1), 1000000002);
        DUE.is("count(12)", x.count(12), 2);
        DUE.is("east", of("c00e;").point(1, 0), 1);
    }

    private static void shore() {
        DUE.part("6 shore");
        int[][] notDry = {{0, 6, 7}, {3, 6, 7, 10, 11, 12, 13}, {6, 4, 5, 6, 7}, {8, 4, 5, 6, 7, 10, 11}};
        for (int[] tide : notDry) {
            PaidByCoast x = ofAt(ALL_KINDS, tide[0]);
            for (int place = 0; place <= 13; place++) {
                boolean dry = true;
                for (int i = 1; i < tide.length; i++) {
                    dry &= tide[i] != place;
                }
                DUE.is("shore(" + place + ") at " + tide[0], x.shore(place), dry ? 1 : 0);
            }
            DUE.is("count(3) at " + tide[0], x.count(3), 14 - (tide.length - 1));
        }
        PaidByCoast x = of(ALL_KINDS);
        refused(x, "shore(-1)", -1, o -> o.shore(-1));
        refused(x, "shore(14)", -1, o -> o.shore(14));
        refused(x, "shore(MAX)", -1, o -> o.shore(MAX));
    }

    private static void tide() {
        DUE.part("7 tide");
        PaidByCoast x = new PaidByCoast();
        DUE.is("tide(9)", x.tide(9), 0);
        DUE.is("tide(4)", x.tide(4), 9);
        refused(x, "tide(-1)", -4, o -> o.tide(-1));
        refused(x, "tide(10)", -6, o -> o.tide(10));
        DUE.is("tide(0)", x.tide(0), 4);
        DUE.is("count(2)", x.count(2), 0);
    }

    private static void facts(PaidByCoast x, int rod, int begin, int... due) {
        for (int what = 0; what < 5; what++) {
            DUE.is("walk(" + rod + ", " + begin + ", " + what + ")", x.walk(rod, begin, what), due[what]);
        }
    }

    private static void walk() {
        DUE.part("8 walk");
        PaidByCoast x = of(ALL_KINDS);
        facts(x, 2, 0, 5, 10, 23, 13, 0);
        facts(x, 3, 1, 1, 3, 6, 8, 5);
        facts(x, 9, 0, 0, 0, 0, 0, 11);
        // No place on shore of number 6 or 7: it begins behind the river.
        facts(x, 9, 6, 0, 0, 0, 8, 5);
        x.tide(3);
        facts(x, 1, 9, 0, 0, 0, 9, 0);
        facts(of("c00ee;"), 1, 3, 0, 0, 0, -9, 0);
        facts(of("c20ee;"), 1, 1, 0, 0, 0, -9, 0);
        // As the crow flies, 3 and 4 yards are 5: no less.
        facts(of("c00eeennnn;"), 5, 0, 1, 5, 6, 7, 0);
        facts(of("c00eeennn;"), 5, 0, 0, 0, 0, 0, 6);
        refused(x, "walk(1, 0, 5)", -2, o -> o.walk(1, 0, 5));
        refused(x, "walk(0, 10, -1)", -2, o -> o.walk(0, 10, -1));
        refused(x, "walk(0, 10, 0)", -4, o -> o.walk(0, 10, 0));
        refused(x, "walk(10, -1, 0)", -4, o -> o.walk(10, -1, 0));
        refused(x, "walk(MIN, 0, 0)", -4, o -> o.walk(MIN, 0, 0));
        refused(x, "walk(10, 0, 0)", -6, o -> o.walk(10, 0, 0));
        refused(x, "walk(1, 10, 0)", -6, o -> o.walk(1, 10, 0));
        refused(x, "walk(9, MAX, 4)", -6, o -> o.walk(9, MAX, 4));
        DUE.is("48 steps", of(LONGEST).walk(1, 0, 3), 48);
    }

    private static void place() {
        DUE.part("9 place");
        PaidByCoast x = of(ALL_KINDS);
        int[] due = {0, 2, 5, 8, 11, 13, -9, -9};
        for (int i = 0; i < due.length; i++) {
            DUE.is("place(2, 0, " + i + ")", x.place(2, 0, i), due[i]);
        }
        DUE.is("place(2, 0, MAX)", x.place(2, 0, MAX), -9);
        DUE.is("the last of 48", of(LONGEST).place(1, 0, 48), 48);
        DUE.is("place(9, 7, 0)", x.place(9, 7, 0), 8);
        DUE.is("place(1, 9, 0) of nothing", new PaidByCoast().place(1, 9, 0), -9);
        refused(x, "place(1, 0, -1)", -4, o -> o.place(1, 0, -1));
        refused(x, "place(10, 10, -1)", -4, o -> o.place(10, 10, -1));
        refused(x, "place(0, 10, 0)", -4, o -> o.place(0, 10, 0));
        refused(x, "place(10, -1, 0)", -4, o -> o.place(10, -1, 0));
        refused(x, "place(10, 0, 0)", -6, o -> o.place(10, 0, 0));
        refused(x, "place(1, 10, 0)", -6, o -> o.place(1, 10, 0));
    }

    private static void best() {
        DUE.part("10 best");
        PaidByCoast x = of(STRAIGHT);
        int[][] due = {{10, 18}, {19, 0}, {10, 9}};
        for (int what = 0; what < 3; what++) {
            DUE.is("best(" + what + ", 0)", x.best(what, 0), due[what][0]);
            DUE.is("best(" + what + ", 1)", x.best(what, 1), due[what][1]);
        }
        // 4 places on shore, each 9 behind the last: the rod 9 pays most, from 0 alone.
        x = of("c00e;c20eeeeeeee;c00e;c20eeeeeeee;c00e;");
        DUE.is("most pay", x.best(0, 0), 90);
        DUE.is("how much", x.best(0, 1), 20);
        DUE.is("most miles", x.best(2, 0), 90);
        DUE.is("how many", x.best(2, 1), 18);
        // Places on shore 0 to 3 and 10 to 12: the rod 1 has 6 steps of fees of 10, the rod 9 one step.
        x = of("c39eee;c20eeeeee;c39eee;");
        DUE.is("most pay is not most miles", x.best(0, 0), 10);
        DUE.is("how much", x.best(0, 1), 66);
        DUE.is("most miles", x.best(2, 0), 90);
        DUE.is("how many", x.best(2, 1), 9);
        refused(x, "best(3, 0)", -2, o -> o.best(3, 0));
        refused(x, "best(-1, 0)", -2, o -> o.best(-1, 0));
        refused(x, "best(0, 2)", -2, o -> o.best(0, 2));
        refused(x, "best(0, -1)", -2, o -> o.best(0, -1));
        DUE.is("least pay of nothing", new PaidByCoast().best(1, 0), 10);
    }

    private static void span() {
        DUE.part("11 span");
        PaidByCoast x = of(STRAIGHT);
        DUE.is("span(1)", x.span(1), 9);
        DUE.is("span(2)", x.span(2), 8);
        DUE.is("span(9)", x.span(9), 9);
        tell(x, "c00eeeeeeeee;");
        // From 0: 18, from 9: 9.
        DUE.is("span(1) of 18 yards", x.span(1), 9);
        // From 0 to 4: 14, from 5 on: 7.
        DUE.is("span(7) of 18 yards", x.span(7), 7);
        // One to the west, then nine to the east: the rod 9 has a step from 1 alone.
        DUE.is("most behind 0", of("c00w;c00eeeeeeeee;").span(9), 9);
        refused(x, "span(0)", -4, o -> o.span(0));
        refused(x, "span(10)", -6, o -> o.span(10));
        DUE.is("span(5) of nothing", new PaidByCoast().span(5), 0);
    }

    private static void finer() {
        DUE.part("12 finer");
        PaidByCoast x = of(STRAIGHT);
        // Miles by rods: 9, 8, 9, 8, 5, 6, 7, 8, 9.
        DUE.is("finer(0)", x.finer(0), 5);
        // Of 3 yards: 3, 2, 3, 0 ..
        DUE.is("finer(6)", x.finer(6), 1);
        DUE.is("finer(9)", x.finer(9), 0);
        DUE.is("the rod 2 more than 1", of("c20e;c00e;").finer(0), 1);
        refused(x, "finer(-1)", -4, o -> o.finer(-1));
        refused(x, "finer(10)", -6, o -> o.finer(10));
        DUE.is("finer(9) of nothing", new PaidByCoast().finer(9), 0);
    }

    private static void two() {
        DUE.part("13 two");
        PaidByCoast x = of(ALL_KINDS);
        DUE.is("two(2, 2, 0)", x.two(2, 2, 0), 6);
        DUE.is("two(2, 2, 1)", x.two(2, 2, 1), 4);
        DUE.is("two(9, 1, 0)", x.two(9, 1, 0), 0);
        DUE.is("two(9, 1, 1)", x.two(9, 1, 1), 10);
        DUE.is("two(1, 9, 0)", x.two(1, 9, 0), 10);
        DUE.is("two(1, 9, 1)", x.two(1, 9, 1), 0);
        x = of("c00ee;");
        DUE.is("the first one first", x.two(1, 1, 0), 1);
        DUE.is("no room for the other", x.two(1, 1, 1), 0);
        // The other begins at the last place on shore, not at the last place.
        x = of("c00eee;c20ee;");
        DUE.is("two(1, 2, 0)", x.two(1, 2, 0), 2);
        DUE.is("two(2, 1, 0)", x.two(2, 1, 0), 2);
        DUE.is("two(3, 1, 1)", x.two(3, 1, 1), 2);
        refused(x, "two(0, 10, 2)", -2, o -> o.two(0, 10, 2));
        refused(x, "two(1, 1, -1)", -2, o -> o.two(1, 1, -1));
        refused(x, "two(0, 10, 0)", -4, o -> o.two(0, 10, 0));
        refused(x, "two(10, 0, 1)", -4, o -> o.two(10, 0, 1));
        refused(x, "two(10, 1, 0)", -6, o -> o.two(10, 1, 0));
        refused(x, "two(1, 10, 0)", -6, o -> o.two(1, 10, 0));
    }

    private static void map() {
        DUE.part("14 map");
        PaidByCoast x = of(STRAIGHT);
        DUE.is("map(9, 0)", x.map(9, 0), 30);
        DUE.is("map(9, 1)", x.map(9, 1), 100);
        DUE.is("map(5, 0)", x.map(5, 0), 60);
        DUE.is("map(5, 1)", x.map(5, 1), 140);
        DUE.is("map(100, 0)", x.map(100, 0), 0);
        DUE.is("map(MAX, 1)", x.map(MAX, 1), -9);
        // A marsh of figure 4 is there at 0, 2 and 4: one step by the rods 1 and 2, from 0.
        x = ofAt("c20e;c44e;", 9);
        DUE.is("map(2, 0)", x.map(2, 0), 3);
        DUE.is("map(2, 1)", x.map(2, 1), 200);
        DUE.is("map(1, 1)", x.map(1, 1), 100);
        x = of("c50e;");
        DUE.is("the first tide of a wall", x.map(1, 1), 101);
        DUE.is("its tides", x.map(1, 0), 9);
        DUE.is("the tide stays", x.count(2), 0);
        refused(x, "map(-1, 2)", -2, o -> o.map(-1, 2));
        refused(x, "map(0, -1)", -2, o -> o.map(0, -1));
        refused(x, "map(-1, 0)", -4, o -> o.map(-1, 0));
        DUE.is("map(0, 0) of nothing", new PaidByCoast().map(0, 0), 900);
    }

    private static void rock() {
        DUE.part("15 rock");
        PaidByCoast x = ofAt(THREE_ROCKS, 5);
        int[][] due = {{3, 4, 2, 5, 1}, {10, 0, 4, 9, 1}, {0, 7, 6, 6, 0}};
        for (int i = 0; i < due.length; i++) {
            for (int what = 0; what < 5; what++) {
                DUE.is("rock(" + i + ", " + what + ")", x.rock(i, what), due[i][what]);
            }
        }
        refused(x, "rock(3, 9)", -1, o -> o.rock(3, 9));
        refused(x, "rock(-1, 0)", -1, o -> o.rock(-1, 0));
        refused(x, "rock(0, 5)", -2, o -> o.rock(0, 5));
        refused(x, "rock(0, -1)", -2, o -> o.rock(0, -1));
    }

    private static void islands() {
        DUE.part("16 islands");
        PaidByCoast x = of(THREE_ROCKS);
        int[] due = {0, 0, 1, 1, 3, 3, 6, 2, 2, 2};
        for (int tide = 0; tide <= 9; tide++) {
            x.tide(tide);
            DUE.is("islands() at " + tide, x.islands(), due[tide]);
        }
        DUE.is("six", of("r000000;r000000;r000000;r000000;r000000;r000000;").islands(), 63);
        DUE.is("none", new PaidByCoast().islands(), 0);
    }

    private static void hours() {
        DUE.part("17 hours");
        PaidByCoast x = of(THREE_ROCKS);
        DUE.is("hours(0)", x.hours(0), 2);
        DUE.is("hours(1)", x.hours(1), 4 + 64);
        x = of("r000000;r000011;r000022;r000033;r000088;r000099;");
        DUE.is("each its own", x.hours(0), 6);
        DUE.is("the set", x.hours(1), 1 + 2 + 4 + 8 + 256 + 512);
        // Fewest first, though two early hours would be less as bits.
        x = of("r000009;r000019;r000099;");
        DUE.is("one late hour", x.hours(0), 1);
        DUE.is("the set", x.hours(1), 512);
        DUE.is("no rocks", new PaidByCoast().hours(0), 0);
        DUE.is("no rocks' set", new PaidByCoast().hours(1), 0);
        refused(x, "hours(2)", -2, o -> o.hours(2));
        refused(x, "hours(-1)", -2, o -> o.hours(-1));
    }

    private static void boat() {
        DUE.part("18 boat");
        PaidByCoast x = of(THREE_ROCKS);
        int[] due = {0, 0, 14, 14, 28, 28, 34, 20, 20, 20};
        for (int tide = 0; tide <= 9; tide++) {
            x.tide(tide);
            DUE.is("boat() at " + tide, x.boat(), due[tide]);
        }
        // On the border of a square of 9, told crosswise: once round it.
        x = of("r090900;r000900;r090000;r000500;r050900;r090500;");
        DUE.is("six", x.boat(), 36);
        DUE.is("six that are no islands", of("r990599;".repeat(6)).boat(), 0);
        DUE.is("a rock at home", of("r000000;").boat(), 0);
        DUE.is("two at one place", of("r040300;r040300;").boat(), 14);
        DUE.is("none", new PaidByCoast().boat(), 0);
    }

    private static void cut() {
        DUE.part("19 cut");
        PaidByCoast x = of(ALL_KINDS);
        int[] due = {8, 8, 10, 8, 8, 8};
        for (int i = 0; i < due.length; i++) {
            DUE.is("cut(" + i + ", 2)", x.cut(i, 2), due[i]);
        }
        DUE.is("cut(0, 1) of one stretch", of(STRAIGHT).cut(0, 1), 0);
        DUE.is("nothing is changed", x.walk(2, 0, 1), 10);
        refused(x, "cut(6, 0)", -1, o -> o.cut(6, 0));
        refused(x, "cut(-1, 10)", -1, o -> o.cut(-1, 10));
        refused(x, "cut(0, 0)", -4, o -> o.cut(0, 0));
        refused(x, "cut(0, 10)", -6, o -> o.cut(0, 10));
    }

    private static void worstCut() {
        DUE.part("20 worstCut");
        PaidByCoast x = of(ALL_KINDS);
        DUE.is("of several the first", x.worstCut(2), 0);
        DUE.is("the second", of("c00e;c00eeeeeeeee;").worstCut(1), 1);
        DUE.is("a river's is no worse", of("c20e;c00ee;c20e;").worstCut(1), 1);
        DUE.is("no stretch", new PaidByCoast().worstCut(9), -9);
        refused(x, "worstCut(0)", -4, o -> o.worstCut(0));
        refused(x, "worstCut(10)", -6, o -> o.worstCut(10));
    }

    private static void copy() {
        DUE.part("21 copy");
        PaidByCoast x = of(STRAIGHT);
        DUE.is("copy(1, 1)", x.copy(1, 1), 9);
        DUE.is("copy(2, 1)", x.copy(2, 1), 4);
        DUE.is("copy(2, 3)", x.copy(2, 3), 6);
        DUE.is("copy(9, 9)", x.copy(9, 9), 9);
        DUE.is("copy(6, 9)", x.copy(6, 9), 0);
        // Places on shore 0, 1, 4, 5: each second is 0 and 4.
        DUE.is("those on shore alone", of("c00e;c20ee;c00ee;").copy(2, 4), 4);
        DUE.is("up to the last of 48", of(LONGEST).copy(8, 8), 48);
        refused(x, "copy(0, 10)", -4, o -> o.copy(0, 10));
        refused(x, "copy(10, 0)", -4, o -> o.copy(10, 0));
        refused(x, "copy(10, 1)", -6, o -> o.copy(10, 1));
        refused(x, "copy(1, 10)", -6, o -> o.copy(1, 10));
        refused(x, "copy(MIN, 1)", -4, o -> o.copy(MIN, 1));
    }

    private static void sure() {
        DUE.part("22 sure");
        PaidByCoast x = of(STRAIGHT);
        int[] due = {10, 5, 2, 1, 1, 1, 1, 1, 1};
        for (int rod = 1; rod <= 9; rod++) {
            DUE.is("sure(" + rod + ")", x.sure(rod), due[rod - 1]);
        }
        // The last place is the point of the one before it on shore: not even the rod 1 stops there.
        DUE.is("a place that no walk reaches", of("c00e;c20e;c00w;").sure(1), 2);
        refused(x, "sure(0)", -4, o -> o.sure(0));
        refused(x, "sure(10)", -6, o -> o.sure(10));
    }

    private static void row() {
        DUE.part("23 row");
        PaidByCoast x = new PaidByCoast();
        DUE.is("row(48)", x.row(48), 1);
        refused(x, "row(-1)", -4, o -> o.row(-1));
        refused(x, "row(49)", -6, o -> o.row(49));
        for (int i = 2; i <= 12; i++) {
            DUE.is("place " + i, x.row(0), i);
        }
        refused(x, "a 13th", -6, o -> o.row(0));
        refused(x, "row(-1) with 12", -4, o -> o.row(-1));
        DUE.is("count(6)", x.count(6), 12);
    }

    private static int judged(PaidByCoast x, int rod, int begin, int... places) {
        for (int place : places) {
            x.row(place);
        }
        int answer = x.judge(rod, begin);
        DUE.is("the row has none then", x.count(6), 0);
        return answer;
    }

    private static void judge() {
        DUE.part("24 judge");
        PaidByCoast x = of(ALL_KINDS);
        DUE.is("the whole walk", judged(x, 2, 0, 0, 2, 5, 8, 11, 13), -9);
        DUE.is("a shorter row", judged(x, 2, 0, 0, 2), -9);
        DUE.is("no row", judged(x, 2, 0), -9);
        DUE.is("one more", judged(x, 2, 0, 0, 2, 5, 8, 11, 13, 13), 6);
        DUE.is("the last is wrong", judged(x, 2, 0, 0, 2, 5, 8, 11, 12), 5);
        DUE.is("the first is wrong", judged(x, 2, 0, 1, 2, 5), 0);
        DUE.is("two are wrong", judged(x, 2, 0, 0, 3, 6), 1);
        DUE.is("from behind the river", judged(x, 9, 6, 8), -9);
        DUE.is("no place to begin", judged(new PaidByCoast(), 1, 1, 0), 0);
        x.row(0);
        refused(x, "judge(0, 10)", -4, o -> o.judge(0, 10));
        refused(x, "judge(10, -1)", -4, o -> o.judge(10, -1));
        refused(x, "judge(10, 0)", -6, o -> o.judge(10, 0));
        refused(x, "judge(1, 10)", -6, o -> o.judge(1, 10));
        DUE.is("it stays", x.count(6), 1);
        DUE.is("judge(1, 0)", x.judge(1, 0), -9);
    }

    private static void seeds() {
        DUE.part("25 seeds");
        // The draws of the seed 1 begin 16838, 5758, 10113, 17515, 31051, 5627:
        // rod 9 from 8 at 3, then rod 2 from 1 at 7.
        PaidByCoast x = of(STRAIGHT);
        DUE.is("seeds(1, 1)", x.seeds(1, 1), 0);
        DUE.is("seeds(2, 1)", x.seeds(2, 1), 8);
        DUE.is("seeds(3, 1)", x.seeds(3, 1), 8);
        DUE.is("sand that is dry at 7", ofAt("c17eeeeeeeee;", 9).seeds(2, 1), 8);
        x = of("c16eeeeeeeee;");
        DUE.is("sand that is not", x.seeds(2, 1), 0);
        DUE.is("the tide stays", x.count(2), 0);
        // -7 draws 13204, 361: rod 2 from 1; the least int 0, 21468: rod 1 from 8.
        DUE.is("a seed below 0", of(STRAIGHT + STRAIGHT).seeds(1, -7), 16);
        DUE.is("the least seed", of(STRAIGHT + STRAIGHT).seeds(1, MIN), 10);
        refused(x, "seeds(0, 1)", -4, o -> o.seeds(0, 1));
        refused(x, "seeds(MIN, 1)", -4, o -> o.seeds(MIN, 1));
        refused(x, "seeds(61, 1)", -6, o -> o.seeds(61, 1));
        DUE.is("seeds(60, 5) of nothing", new PaidByCoast().seeds(60, 5), 0);
    }

    private static void image() {
        DUE.part("26 image");
        PaidByCoast x = of(STRAIGHT);
        DUE.is("image()", x.image(), 9);
        tell(x, "c00nn;r010101;t3;");
        DUE.is("restore()", x.restore(), 9);
        DUE.is("image() anew", x.image(), 9);
        tell(x, "c00nn;");
        DUE.is("image() of more", x.image(), 11);
        DUE.is("restore() of more", x.restore(), 11);
        DUE.is("image() of nothing", new PaidByCoast().image(), 0);
    }

    private static void restore() {
        DUE.part("27 restore");
        PaidByCoast x = of(ALL_KINDS + THREE_ROCKS);
        refused(x, "restore() without an image", -3, o -> o.restore());
        x.tide(4);
        x.image();
        DUE.is("more", tell(x, "c39wwww;r050505;t7;"), 3);
        send(x, "t1");
        x.row(3);
        x.shore(-1);
        DUE.is("restore()", x.restore(), 13);
        int[] due = {6, 13, 4, 12, 3, 2, 1, 13};
        for (int what = 0; what < due.length; what++) {
            DUE.is("count(" + what + ")", x.count(what), due[what]);
        }
        DUE.is("refusals stay", x.count(11) + x.count(13), 2);
        DUE.is("no stretch 6", x.stretch(6, 0), -1);
        DUE.is("no rock 3", x.rock(3, 0), -1);
        DUE.is("the letters go on", tell(x, ";c00s;"), 2);
        DUE.is("from where the image ends", x.point(14, 1), 1);
        DUE.is("x there", x.point(14, 0), 7);
        DUE.is("restore() again", x.restore(), 13);
        DUE.is("the tide of the image", x.count(2), 4);
        DUE.is("the image is not changed", x.islands(), 3);
        PaidByCoast empty = new PaidByCoast();
        empty.image();
        tell(empty, STRAIGHT);
        DUE.is("restore() of nothing", empty.restore(), 0);
        DUE.is("places then", empty.shore(1), -1);
    }

    private static void count() {
        DUE.part("28 count");
        PaidByCoast x = ofAt(ALL_KINDS + THREE_ROCKS, 6);
        send(x, "abc");
        x.row(1);
        x.row(2);
        int[] due = {6, 13, 6, 10, 3, 3, 2, 13};
        for (int what = 0; what < due.length; what++) {
            DUE.is("count(" + what + ")", x.count(what), due[what]);
        }
        int[] others = {MIN, -9, -1, 8, 9, 10, 17, 18, MAX};
        for (int what : others) {
            DUE.is("count(" + what + ")", x.count(what), -9);
        }
        DUE.is("no refusals", all(x), 0);
        x.rock(9, 9);
        x.hours(9);
        x.hours(9);
        x.restore();
        x.tide(-1);
        x.tide(10);
        x.tide(11);
        int[] refusals = {1, 2, 1, 1, 0, 2};
        for (int i = 0; i < refusals.length; i++) {
            DUE.is("count(" + (11 + i) + ")", x.count(11 + i), refusals[i]);
        }
    }
}
