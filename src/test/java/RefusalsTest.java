import java.util.ArrayList;
import java.util.Arrays;
import java.util.List;
import java.util.TreeSet;

/**
 * Every call with every mixture of arguments at and beside their bounds, on objects that are new, in
 * use and full: the number of the first refusal that fits, in the order in which the promise tells
 * them; and that a refused call changes nothing but how many of its number there were.
 */
public final class RefusalsTest {
    private static final Due DUE = new Due("RefusalsTest");

    public static void main(String[] args) {
        for (State state : STATES) {
            state.isAsTold();
            for (Call call : CALLS) {
                DUE.part(call.name + " on an object that is " + state.name);
                call.tryAll(state);
            }
            neverRefused(state);
        }
        refusalsAddUp();
        DUE.end();
    }

    // ---- the document's bounds, call by call, the refusals in its order

    private static final Call[] CALLS = {
        new Call("feed", 1, below(0, 0), above(0, 255), room(s -> s.letters == 80)),
        new Call("stretch", 2, nobody(0, s -> s.stretches - 1), other(1, 0, 5)),
        new Call("point", 2, nobody(0, s -> s.yards), other(1, 0, 1)),
        new Call("shore", 1, nobody(0, s -> s.yards)),
        new Call("tide", 1, below(0, 0), above(0, 9)),
        new Call("walk", 3, other(2, 0, 4), below(0, 1), below(1, 0), above(0, 9), above(1, 9)),
        new Call("place", 3, below(0, 1), below(1, 0), below(2, 0), above(0, 9), above(1, 9)),
        new Call("best", 2, other(0, 0, 2), other(1, 0, 1)),
        new Call("span", 1, below(0, 1), above(0, 9)),
        new Call("finer", 1, below(0, 0), above(0, 9)),
        new Call("two", 3, other(2, 0, 1), below(0, 1), below(1, 1), above(0, 9), above(1, 9)),
        new Call("map", 2, other(1, 0, 1), below(0, 0)),
        new Call("rock", 2, nobody(0, s -> s.rocks - 1), other(1, 0, 4)),
        new Call("hours", 1, other(0, 0, 1)),
        new Call("cut", 2, nobody(0, s -> s.stretches - 1), below(1, 1), above(1, 9)),
        new Call("worstCut", 1, below(0, 1), above(0, 9)),
        new Call("copy", 2, below(0, 1), below(1, 1), above(0, 9), above(1, 9)),
        new Call("sure", 1, below(0, 1), above(0, 9)),
        new Call("row", 1, below(0, 0), above(0, 48), room(s -> s.row == 12)),
        new Call("judge", 2, below(0, 1), below(1, 0), above(0, 9), above(1, 9)),
        new Call("seeds", 2, below(0, 1), above(0, 60)),
        new Call("restore", 0, new Rule(-3, -1, (s, a) -> !s.image)),
    };

    private static Rule other(int arg, int least, int greatest) {
        return new Rule(-2, arg, (s, a) -> a[arg] < least || a[arg] > greatest, least - 1, least, greatest, greatest + 1);
    }

    private static Rule nobody(int arg, Last last) {
        Rule rule = new Rule(-1, arg, (s, a) -> a[arg] < 0 || a[arg] > last.of(s), -1, 0);
        rule.last = last;
        return rule;
    }

    private static Rule below(int arg, int least) {
        return new Rule(-4, arg, (s, a) -> a[arg] < least, least - 1, least);
    }

    private static Rule above(int arg, int greatest) {
        return new Rule(-6, arg, (s, a) -> a[arg] > greatest, greatest, greatest + 1);
    }

    private static Rule room(Full full) {
        return new Rule(-6, -1, (s, a) -> full.is(s));
    }

    private interface Last {
        int of(State s);
    }

    private interface Full {
        boolean is(State s);
    }

    private interface Fits {
        boolean fits(State s, int[] a);
    }

    private static final class Rule {
        final int number;
        final int arg;
        final Fits fits;
        final int[] beside;
        Last last;

        Rule(int number, int arg, Fits fits, int... beside) {
            this.number = number;
            this.arg = arg;
            this.fits = fits;
            this.beside = beside;
        }
    }

    // ---- the objects that are asked

    private interface Build {
        void on(PaidByCoast x);
    }

    private static final String EIGHT_STRETCHES =
        "c00nnnnnn;c15eeeeee;c20nnnnnn;c33eeeeee;c48ssssss;c52eeeeee;c00nnnnnn;c19wwwwww;";
    private static final String SIX_ROCKS = "r030425;r100049;r000766;r999909;r000000;r505055;";
    private static final State[] STATES = {
        new State("new", 0, 0, 0, 0, 0, false, x -> { }),
        new State("in use", 7, 11, 2, 7, 3, true, x -> {
            tell(x, "c00ee;c12n;c20ne;c36e;c49w;c51nn;r030425;r990009;t2;");
            x.image();
            tell(x, "c00ss;t4;");
            row(x, 3);
            Ask.feedAll(x, "c00n;t7");
        }),
        new State("told 80 letters", 0, 0, 0, 80, 1, false, x -> {
            row(x, 1);
            Ask.feedAll(x, "r990000;r009909;c00nnn;" + "t1;".repeat(18) + "t5;");
        }),
        new State("full", 8, 48, 6, 80, 12, true, x -> {
            tell(x, EIGHT_STRETCHES);
            tell(x, SIX_ROCKS);
            x.image();
            x.tide(4);
            row(x, 12);
            Ask.feedAll(x, "t1;".repeat(25) + "c00n;");
        }),
        new State("full, without an image", 8, 48, 6, 0, 0, false, x -> {
            tell(x, EIGHT_STRETCHES);
            tell(x, SIX_ROCKS);
        }),
    };

    private static void tell(PaidByCoast x, String text) {
        Ask.feedAll(x, text);
        DUE.that(text + " comes", x.coast() > 0);
    }

    /** The first places of the walk with the rod 1 from 0: a judge sees any change of them. */
    private static void row(PaidByCoast x, int size) {
        for (int i = 0; i < size; i++) {
            x.row(x.place(1, 0, i));
        }
    }

    private static final class State {
        final String name;
        final int stretches;
        final int yards;
        final int rocks;
        final int letters;
        final int row;
        final boolean image;
        final Build build;
        final List<List<Integer>> seen = new ArrayList<>();

        State(String name, int stretches, int yards, int rocks, int letters, int row, boolean image, Build build) {
            this.name = name;
            this.stretches = stretches;
            this.yards = yards;
            this.rocks = rocks;
            this.letters = letters;
            this.row = row;
            this.image = image;
            this.build = build;
        }

        PaidByCoast make() {
            PaidByCoast x = new PaidByCoast();
            build.on(x);
            return x;
        }

        void isAsTold() {
            DUE.part("an object that is " + name);
            PaidByCoast x = make();
            int[] due = {stretches, yards, x.count(2), x.count(3), rocks, letters, row};
            for (int what = 0; what < due.length; what++) {
                DUE.is(Ask.name("count", what), x.count(what), due[what]);
            }
            DUE.is("its row is a walk", x.judge(1, 0), -9);
            for (Look look : LOOKS) {
                seen.add(look.at(make()));
            }
        }
    }

    // ---- what can be seen of an object: what stands, its row, its letters, its image

    private interface Look {
        List<Integer> at(PaidByCoast x);
    }

    private static final Look[] LOOKS = {
        RefusalsTest::all,
        x -> Arrays.asList(x.count(6), x.judge(1, 0), x.count(6)),
        x -> {
            int answer = x.coast();
            List<Integer> seen = all(x);
            seen.add(answer);
            return seen;
        },
        x -> {
            int answer = x.restore();
            List<Integer> seen = all(x);
            seen.add(answer);
            return seen;
        },
    };

    private static List<Integer> all(PaidByCoast x) {
        List<Integer> all = new ArrayList<>();
        for (int what = 0; what <= 7; what++) {
            all.add(x.count(what));
        }
        for (int stretch = 0; stretch < all.get(0); stretch++) {
            for (int what = 0; what <= 5; what++) {
                all.add(x.stretch(stretch, what));
            }
        }
        for (int place = 0; place <= all.get(1); place++) {
            all.add(x.point(place, 0));
            all.add(x.point(place, 1));
            all.add(x.shore(place));
        }
        for (int rock = 0; rock < all.get(4); rock++) {
            for (int what = 0; what <= 4; what++) {
                all.add(x.rock(rock, what));
            }
        }
        return all;
    }

    private static int[] refusals(PaidByCoast x) {
        int[] refusals = new int[6];
        for (int i = 0; i < refusals.length; i++) {
            refusals[i] = x.count(11 + i);
        }
        return refusals;
    }

    // ---- a call, by all its arguments

    private static final class Call {
        final String name;
        final int arguments;
        final Rule[] rules;

        Call(String name, int arguments, Rule... rules) {
            this.name = name;
            this.arguments = arguments;
            this.rules = rules;
        }

        void tryAll(State state) {
            tryFrom(state, new int[arguments], 0);
        }

        private void tryFrom(State state, int[] a, int arg) {
            if (arg == arguments) {
                tryOne(state, a);
                return;
            }
            for (int value : valuesOf(state, arg)) {
                a[arg] = value;
                tryFrom(state, a, arg + 1);
            }
        }

        private TreeSet<Integer> valuesOf(State state, int arg) {
            TreeSet<Integer> values = new TreeSet<>(Arrays.asList(Integer.MIN_VALUE, Integer.MAX_VALUE));
            for (Rule rule : rules) {
                if (rule.arg == arg) {
                    for (int value : rule.beside) {
                        values.add(value);
                    }
                    if (rule.last != null) {
                        values.add(rule.last.of(state));
                        values.add(rule.last.of(state) + 1);
                    }
                }
            }
            return values;
        }

        private int due(State state, int[] a) {
            for (Rule rule : rules) {
                if (rule.fits.fits(state, a)) {
                    return rule.number;
                }
            }
            return 0;
        }

        private void tryOne(State state, int[] a) {
            int due = due(state, a);
            if (due == 0) {
                taken(state, a);
                return;
            }
            for (int i = 0; i < LOOKS.length; i++) {
                PaidByCoast x = state.make();
                int[] counts = refusals(x);
                int told = name.equals("point") ? 1000000000 - due : due;
                DUE.is(Ask.name(name, a), Ask.of(x, name, a), told);
                counts[-due - 1]++;
                DUE.that(Ask.name(name, a) + " counts once, as " + due, Arrays.equals(refusals(x), counts));
                DUE.that(Ask.name(name, a) + " changes nothing", LOOKS[i].at(x).equals(state.seen.get(i)));
            }
        }

        private void taken(State state, int[] a) {
            for (int i = 0; i < LOOKS.length; i++) {
                PaidByCoast x = state.make();
                int[] counts = refusals(x);
                int answer = Ask.of(x, name, a);
                DUE.that(Ask.name(name, a) + " is not refused", Arrays.equals(refusals(x), counts));
                // Only a coordinate may look like a refusal.
                DUE.that(Ask.name(name, a) + " answers no refusal", name.equals("point") ? answer < 999999999
                    : answer >= 0 || answer == -9);
                DUE.that(Ask.name(name, a) + " changes nothing", changes() || LOOKS[i].at(x).equals(state.seen.get(i)));
            }
        }

        private boolean changes() {
            return Arrays.asList("feed", "tide", "row", "judge", "restore").contains(name);
        }
    }

    private static void neverRefused(State state) {
        DUE.part("calls that are never refused, on an object that is " + state.name);
        String[] calls = {"coast", "islands", "boat", "image", "count -2147483648", "count -9", "count -1", "count 0", "count 7",
            "count 8", "count 10", "count 11", "count 14", "count 15", "count 16", "count 17", "count 2147483647"};
        for (String call : calls) {
            PaidByCoast x = state.make();
            int[] counts = refusals(x);
            Ask.told(x, call);
            DUE.that(call + " is not refused", Arrays.equals(refusals(x), counts));
        }
    }

    private static void refusalsAddUp() {
        DUE.part("how many refusals there were");
        PaidByCoast x = new PaidByCoast();
        String[] calls = {"shore 1", "hours 2", "restore", "tide -1", "tide 10"};
        int[] counts = {11, 12, 13, 14, 16};
        for (int times = 1; times <= 20; times++) {
            for (int i = 0; i < calls.length; i++) {
                Ask.told(x, calls[i]);
                DUE.is(calls[i] + ", " + times + " times", x.count(counts[i]), times);
            }
        }
        DUE.is("none is a -5", x.count(15), 0);
        x.image();
        x.restore();
        DUE.is("an image has none of them", x.count(11) + x.count(12) + x.count(13) + x.count(14) + x.count(16), 100);
        x = new PaidByCoast();
        for (int i = 0; i < 511; i++) {
            x.tide(10);
        }
        DUE.is("511 of 512 calls", x.count(16), 511);
    }
}
