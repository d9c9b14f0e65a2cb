/** Runs of calls of all sorts, each answer against PlainCoast's. */
public final class ModelTest {
    private static final int RUNS = 1500;
    private static final int CALLS = 512;
    private static final String[] CALLS_WITH_ROOM = {"stretch", "point", "shore", "tide", "walk", "place", "best", "span",
        "finer", "two", "map", "rock", "islands", "hours", "boat", "cut", "worstCut", "copy", "sure", "row", "judge",
        "seeds", "image", "restore", "count"};
    private static final int[] ARGUMENTS = {2, 2, 1, 1, 3, 3, 2, 1, 1, 3, 2, 2, 0, 1, 0, 2, 1, 2, 1, 1, 2, 2, 0, 0, 1};
    private static final int[] EDGES = {Integer.MIN_VALUE, -1000000, -10, -1, 0, 1, 9, 10, 11, 12, 16, 17, 47, 48, 49, 60,
        61, 80, 255, 256, 1000000, Integer.MAX_VALUE};

    private static long state = 20261118;
    private static PaidByCoast x;
    private static PlainCoast plain;
    private static int calls;
    private static final Due DUE = new Due("ModelTest");

    public static void main(String[] args) {
        for (int run = 0; run < RUNS; run++) {
            DUE.part("run " + run);
            oneRun();
        }
        DUE.end();
    }

    private static int below(int n) {
        state = state * 6364136223846793005L + 1442695040888963407L;
        return (int) ((state >>> 33) % n);
    }

    private static void oneRun() {
        x = new PaidByCoast();
        plain = new PlainCoast();
        calls = 0;
        while (calls < CALLS) {
            if (below(12) == 0) {
                feedText();
            } else if (below(25) == 0) {
                tellWalk();
            } else {
                int i = below(CALLS_WITH_ROOM.length);
                int[] a = new int[ARGUMENTS[i]];
                for (int k = 0; k < a.length; k++) {
                    a[k] = argument(CALLS_WITH_ROOM[i], k);
                }
                both(CALLS_WITH_ROOM[i], a);
            }
        }
    }

    private static int argument(String call, int k) {
        if (below(30) == 0) {
            return EDGES[below(EDGES.length)];
        }
        switch (call) {
            case "seeds": return k == 0 ? 1 + below(60) : below(2000000000) - 1000000000;
            case "map": return k == 0 ? below(50) : below(2);
            case "count": return below(18);
            case "point": return k == 0 ? below(50) : below(2);
            case "shore": case "row": return below(49);
            case "stretch": return k == 0 ? below(9) : below(6);
            case "rock": return k == 0 ? below(7) : below(5);
            case "walk": return k == 2 ? below(5) : below(11);
            case "place": return k == 2 ? below(20) : below(11);
            case "two": return k == 2 ? below(2) : 1 + below(9);
            case "best": return k == 0 ? below(3) : below(2);
            case "hours": return below(2);
            default: return below(11);
        }
    }

    private static void feedText() {
        StringBuilder text = new StringBuilder();
        int statements = 1 + below(6);
        for (int i = 0; i < statements; i++) {
            text.append(statement());
        }
        int spoils = below(4) == 0 ? 1 + below(2) : 0;
        for (int i = 0; i < spoils; i++) {
            int at = below(text.length());
            int how = below(4);
            if (how == 0) {
                text.setLength(at);
                break;
            } else if (how == 1) {
                text.setCharAt(at, (char) below(256));
            } else if (how == 2) {
                text.insert(at, "crt;0123456789nesw".charAt(below(18)));
            } else if (text.length() > 1) {
                text.deleteCharAt(at);
            }
        }
        for (int i = 0; i < text.length() && calls < CALLS; i++) {
            both("feed", below(60) == 0 ? argument("feed", 0) : text.charAt(i));
        }
        both("coast");
    }

    private static String statement() {
        int kind = below(10);
        if (kind == 0) {
            return "t" + below(10) + ";";
        }
        if (kind < 4) {
            int low = below(10);
            int high = below(6) == 0 ? below(10) : low + below(10 - low);
            return "r" + below(10) + below(10) + below(10) + below(10) + low + high + ";";
        }
        StringBuilder s = new StringBuilder("c").append(below(12) == 0 ? below(10) : below(6)).append(below(10));
        int ways = 1 + below(9);
        int main = below(4);
        for (int i = 0; i < ways; i++) {
            s.append("nesw".charAt(below(3) == 0 ? below(4) : main));
        }
        return s.append(';').toString();
    }

    /** A row that is mostly the walk it is judged by. */
    private static void tellWalk() {
        int rod = 1 + below(4);
        int begin = below(3);
        int steps = x.walk(rod, begin, 0);
        both("walk", rod, begin, 0);
        for (int i = 0; i <= steps && i < 13; i++) {
            int place = Math.max(0, x.place(rod, begin, i));
            both("place", rod, begin, i);
            both("row", below(15) == 0 ? below(49) : place);
        }
        if (below(3) == 0) {
            both("row", below(49));
        }
        both("judge", rod, begin);
    }

    private static void both(String call, int... a) {
        calls++;
        DUE.is(Ask.name(call, a), Ask.of(x, call, a), plain.ask(call, a));
    }
}
