import java.util.ArrayList;
import java.util.Arrays;
import java.util.List;
import java.util.regex.Matcher;
import java.util.regex.Pattern;

/**
 * The document once more, by other means than the class: lists, sets as arrays, the grammar as a
 * regular expression, the boat by every order. It answers through ask(), by the name of the call.
 */
final class PlainCoast {
    private static final Pattern COAST = Pattern.compile("(c[0-9]{2}[nesw]{1,9};|r[0-9]{6};|t[0-9];)+");
    private static final int[] FEE_OF_FIGURE = {0, 0, 0, 1, 0, 1};
    private static final int[] FEE_FLAT = {1, 2, 0, 1, 4, 0};

    private static final class State {
        List<int[]> stretches = new ArrayList<>();   // kind, figure, yards
        List<int[]> points = new ArrayList<>();      // x, y, stretch
        List<int[]> rocks = new ArrayList<>();
        int tide;

        State() {
            points.add(new int[] {0, 0, -1});
        }

        State(State other) {
            stretches.addAll(other.stretches);
            points.addAll(other.points);
            rocks.addAll(other.rocks);
            tide = other.tide;
        }
    }

    private State s = new State();
    private State image;
    private String letters = "";
    private List<Integer> row = new ArrayList<>();
    private final int[] refusals = new int[7];

    int ask(String call, int... a) {
        int answer = answerOf(call, a);
        boolean point = call.equals("point");
        int refusal = point ? (answer > 999999999 ? 1000000000 - answer : 0) : answer;
        // -9 and faults are no refusals, and no answer of these calls but a refusal is -1 .. -6.
        if (refusal <= -1 && refusal >= -6) {
            refusals[-refusal]++;
        }
        return answer;
    }

    private int answerOf(String call, int[] a) {
        switch (call) {
            case "feed":
                if (a[0] < 0) {
                    return -4;
                }
                if (a[0] > 255 || letters.length() == 80) {
                    return -6;
                }
                letters += (char) a[0];
                return letters.length();
            case "coast": {
                String text = letters;
                letters = "";
                return read(text);
            }
            case "stretch":
                if (a[0] < 0 || a[0] >= s.stretches.size()) {
                    return -1;
                }
                if (a[1] < 0 || a[1] > 5) {
                    return -2;
                }
                return new int[] {s.stretches.get(a[0])[0], s.stretches.get(a[0])[1], s.stretches.get(a[0])[2],
                    firstPlace(a[0]), dry(a[0], s.tide) ? 1 : 0, fee(a[0])}[a[1]];
            case "point":
                if (a[0] < 0 || a[0] >= s.points.size()) {
                    return 1000000001;
                }
                return a[1] < 0 || a[1] > 1 ? 1000000002 : s.points.get(a[0])[a[1]];
            case "shore":
                return a[0] < 0 || a[0] >= s.points.size() ? -1 : shore(s.tide, -1).contains(a[0]) ? 1 : 0;
            case "tide": {
                if (a[0] < 0 || a[0] > 9) {
                    return a[0] < 0 ? -4 : -6;
                }
                int before = s.tide;
                s.tide = a[0];
                return before;
            }
            case "walk":
                if (a[2] < 0 || a[2] > 4) {
                    return -2;
                }
                return outside(a[0], a[1]) != 0 ? outside(a[0], a[1]) : walkFacts(shore(s.tide, -1), a[0], a[1])[a[2]];
            case "place": {
                if (a[2] < 0 || outside(a[0], a[1]) != 0) {
                    return a[2] < 0 ? -4 : outside(a[0], a[1]);
                }
                List<Integer> way = way(shore(s.tide, -1), a[0], a[1]);
                return a[2] < way.size() ? way.get(a[2]) : -9;
            }
            default:
                return answerOfPart2(call, a);
        }
    }

    private int answerOfPart2(String call, int[] a) {
        switch (call) {
            case "best":
                return a[0] < 0 || a[0] > 2 || a[1] < 0 || a[1] > 1 ? -2 : best(a[0])[a[1]];
            case "span": {
                if (outsideRod(a[0]) != 0) {
                    return outsideRod(a[0]);
                }
                int[] miles = new int[10];
                for (int b = 0; b < 10; b++) {
                    miles[b] = miles(s.tide, -1, a[0], b);
                }
                Arrays.sort(miles);
                return miles[9] - miles[0];
            }
            case "finer": {
                if (a[0] < 0 || a[0] > 9) {
                    return a[0] < 0 ? -4 : -6;
                }
                int n = 0;
                for (int r = 2; r <= 9; r++) {
                    n += miles(s.tide, -1, r, a[0]) > miles(s.tide, -1, r - 1, a[0]) ? 1 : 0;
                }
                return n;
            }
            case "two":
                if (a[2] < 0 || a[2] > 1) {
                    return -2;
                }
                if (Math.min(a[0], a[1]) < 1) {
                    return -4;
                }
                return Math.max(a[0], a[1]) > 9 ? -6 : two(a[0], a[1])[a[2]];
            case "map":
                if (a[1] < 0 || a[1] > 1) {
                    return -2;
                }
                return a[0] < 0 ? -4 : map(a[0])[a[1]];
            case "rock":
                if (a[0] < 0 || a[0] >= s.rocks.size()) {
                    return -1;
                }
                if (a[1] < 0 || a[1] > 4) {
                    return -2;
                }
                return a[1] < 4 ? s.rocks.get(a[0])[a[1]] : island(a[0], s.tide) ? 1 : 0;
            case "islands":
                return islands();
            case "hours":
                return a[0] < 0 || a[0] > 1 ? -2 : hours()[a[0]];
            case "boat": {
                boolean[] left = new boolean[s.rocks.size()];
                for (int i = 0; i < left.length; i++) {
                    left[i] = island(i, s.tide);
                }
                return boat(0, 0, left);
            }
            case "cut":
                if (a[0] < 0 || a[0] >= s.stretches.size()) {
                    return -1;
                }
                return outsideRod(a[1]) != 0 ? outsideRod(a[1]) : miles(s.tide, a[0], a[1], 0);
            case "worstCut": {
                if (outsideRod(a[0]) != 0) {
                    return outsideRod(a[0]);
                }
                int worst = -9;
                for (int i = s.stretches.size() - 1; i >= 0; i--) {
                    if (worst < 0 || miles(s.tide, i, a[0], 0) <= miles(s.tide, worst, a[0], 0)) {
                        worst = i;
                    }
                }
                return worst;
            }
            default:
                return answerOfPart3(call, a);
        }
    }

    private int answerOfPart3(String call, int[] a) {
        switch (call) {
            case "copy": {
                if (a[0] < 1 || a[1] < 1) {
                    return -4;
                }
                if (a[0] > 9 || a[1] > 9) {
                    return -6;
                }
                List<Integer> all = shore(s.tide, -1);
                List<Integer> kept = new ArrayList<>();
                for (int i = 0; i < all.size(); i += a[0]) {
                    kept.add(all.get(i));
                }
                return a[1] * (way(kept, a[1], 0).size() - 1);
            }
            case "sure": {
                if (outsideRod(a[0]) != 0) {
                    return outsideRod(a[0]);
                }
                List<Integer> all = way(shore(s.tide, -1), 1, 0);
                for (int r = 2; r <= a[0]; r++) {
                    all.retainAll(way(shore(s.tide, -1), r, 0));
                }
                return all.size();
            }
            case "row":
                if (a[0] < 0) {
                    return -4;
                }
                if (a[0] > 48 || row.size() == 12) {
                    return -6;
                }
                row.add(a[0]);
                return row.size();
            case "judge": {
                if (outside(a[0], a[1]) != 0) {
                    return outside(a[0], a[1]);
                }
                List<Integer> told = row;
                row = new ArrayList<>();
                List<Integer> way = way(shore(s.tide, -1), a[0], a[1]);
                for (int i = 0; i < told.size(); i++) {
                    if (i >= way.size() || !told.get(i).equals(way.get(i))) {
                        return i;
                    }
                }
                return -9;
            }
            case "seeds": {
                if (a[0] < 1 || a[0] > 60) {
                    return a[0] < 1 ? -4 : -6;
                }
                int sum = 0;
                long z = a[1];
                for (int i = 0; i < a[0]; i++) {
                    int[] draws = new int[3];
                    for (int k = 0; k < 3; k++) {
                        z = (z * 1103515245L + 12345L) & 0xffffffffL;
                        draws[k] = (int) ((z & 0x7fffffffL) / 65536L % (k == 0 ? 9 : 10));
                    }
                    sum += miles(draws[2], -1, draws[0] + 1, draws[1]);
                }
                return sum;
            }
            case "image":
                image = new State(s);
                return s.points.size() - 1;
            case "restore":
                if (image == null) {
                    return -3;
                }
                s = new State(image);
                return s.points.size() - 1;
            case "count":
                return count(a[0]);
            default:
                throw new IllegalArgumentException(call);
        }
    }

    private static int outside(int rod, int begin) {
        if (rod <= 0 || begin <= -1) {
            return -4;
        }
        return Math.max(rod, begin) > 9 ? -6 : 0;
    }

    private static int outsideRod(int rod) {
        return outside(rod, 0);
    }

    private int count(int what) {
        if (what >= 11 && what <= 16) {
            return refusals[what - 10];
        }
        if (what < 0 || what > 7) {
            return -9;
        }
        int fees = 0;
        for (int i = 0; i < s.stretches.size(); i++) {
            fees += fee(i);
        }
        return new int[] {s.stretches.size(), s.points.size() - 1, s.tide, shore(s.tide, -1).size(), s.rocks.size(),
            letters.length(), row.size(), fees}[what];
    }

    private int read(String text) {
        if (!COAST.matcher(text).matches()) {
            for (int i = 1; i <= text.length(); i++) {
                Matcher m = COAST.matcher(text.substring(0, i));
                if (!m.matches() && !m.hitEnd()) {
                    return -1000 - (i - 1);
                }
            }
            return -1000 - text.length();
        }
        State t = new State(s);
        String[] statements = text.split(";");
        int start = 0;
        for (String statement : statements) {
            if (!add(t, statement)) {
                return -2000 - start;
            }
            start += statement.length() + 1;
        }
        s = t;
        return statements.length;
    }

    private static boolean add(State t, String statement) {
        if (statement.charAt(0) == 't') {
            t.tide = Integer.parseInt(statement.substring(1));
            return true;
        }
        if (statement.charAt(0) == 'r') {
            int[] rock = {Integer.parseInt(statement.substring(1, 3)), Integer.parseInt(statement.substring(3, 5)),
                Integer.parseInt(statement.substring(5, 6)), Integer.parseInt(statement.substring(6))};
            return rock[2] <= rock[3] && t.rocks.size() < 6 && t.rocks.add(rock);
        }
        String ways = statement.substring(3);
        int kind = Integer.parseInt(statement.substring(1, 2));
        if (kind > 5 || t.stretches.size() == 8 || t.points.size() - 1 + ways.length() > 48) {
            return false;
        }
        t.stretches.add(new int[] {kind, Integer.parseInt(statement.substring(2, 3)), ways.length()});
        for (char way : ways.toCharArray()) {
            int[] last = t.points.get(t.points.size() - 1);
            t.points.add(new int[] {last[0] + (way == 'e' ? 1 : way == 'w' ? -1 : 0),
                last[1] + (way == 'n' ? 1 : way == 's' ? -1 : 0), t.stretches.size() - 1});
        }
        return true;
    }

    private int firstPlace(int stretch) {
        int place = 1;
        while (s.points.get(place)[2] != stretch) {
            place++;
        }
        return place;
    }

    private boolean dry(int stretch, int tide) {
        int figure = s.stretches.get(stretch)[1];
        boolean sand = tide <= figure;
        return new boolean[] {true, sand, false, true, sand && tide % 2 == 0, tide != figure}[s.stretches.get(stretch)[0]];
    }

    private int fee(int stretch) {
        int kind = s.stretches.get(stretch)[0];
        return FEE_FLAT[kind] + FEE_OF_FIGURE[kind] * s.stretches.get(stretch)[1];
    }

    private List<Integer> shore(int tide, int without) {
        List<Integer> shore = new ArrayList<>();
        for (int p = 0; p < s.points.size(); p++) {
            int stretch = s.points.get(p)[2];
            if (p == 0 || stretch != without && dry(stretch, tide)) {
                shore.add(p);
            }
        }
        return shore;
    }

    private boolean far(int p, int q, int rod) {
        return Math.hypot(s.points.get(p)[0] - s.points.get(q)[0], s.points.get(p)[1] - s.points.get(q)[1]) >= rod - 1e-9;
    }

    private List<Integer> way(List<Integer> shore, int rod, int begin) {
        List<Integer> way = new ArrayList<>();
        int i = 0;
        while (i < shore.size() && shore.get(i) < begin) {
            i++;
        }
        while (i < shore.size()) {
            way.add(shore.get(i));
            int at = i;
            i++;
            while (i < shore.size() && !far(shore.get(at), shore.get(i), rod)) {
                i++;
            }
        }
        return way;
    }

    private int miles(int tide, int without, int rod, int begin) {
        return rod * Math.max(0, way(shore(tide, without), rod, begin).size() - 1);
    }

    private int[] walkFacts(List<Integer> shore, int rod, int begin) {
        List<Integer> way = way(shore, rod, begin);
        if (way.isEmpty()) {
            return new int[] {0, 0, 0, -9, 0};
        }
        int steps = way.size() - 1;
        int pay = rod * steps;
        for (int i = 1; i <= steps; i++) {
            pay += fee(s.points.get(way.get(i))[2]);
        }
        int end = way.get(steps);
        return new int[] {steps, rod * steps, pay, end, shore.size() - 1 - shore.indexOf(end)};
    }

    private int[] best(int what) {
        List<Integer> shore = shore(s.tide, -1);
        int[] best = null;
        for (int r = 1; r <= 9; r++) {
            for (int b = 0; b <= 9; b++) {
                int[] facts = walkFacts(shore, r, b);
                int value = what == 0 ? facts[2] : what == 1 ? -facts[2] : facts[1];
                if (best == null || value > best[1]) {
                    best = new int[] {10 * r + b, value};
                }
            }
        }
        best[1] = Math.abs(best[1]);
        return best;
    }

    private int[] two(int rod, int other) {
        List<Integer> shore = shore(s.tide, -1);
        int i = 0;
        int j = shore.size() - 1;
        int[] steps = new int[2];
        boolean[] out = new boolean[2];
        while (!out[0] || !out[1]) {
            if (!out[0]) {
                int k = i + 1;
                while (k < shore.size() && !far(shore.get(i), shore.get(k), rod)) {
                    k++;
                }
                out[0] = k >= j;
                i = out[0] ? i : k;
                steps[0] += out[0] ? 0 : 1;
            }
            if (!out[1]) {
                int k = j - 1;
                while (k >= 0 && !far(shore.get(j), shore.get(k), other)) {
                    k--;
                }
                out[1] = k <= i;
                j = out[1] ? j : k;
                steps[1] += out[1] ? 0 : 1;
            }
        }
        return new int[] {rod * steps[0], other * steps[1]};
    }

    private int[] map(int miles) {
        int[] answer = {0, -9};
        for (int code = 999; code >= 100; code--) {
            if (miles(code % 10, -1, code / 100, code / 10 % 10) == miles) {
                answer[0]++;
                answer[1] = code;
            }
        }
        return answer;
    }

    private boolean island(int rock, int tide) {
        return s.rocks.get(rock)[2] <= tide && tide <= s.rocks.get(rock)[3];
    }

    private int islands() {
        int bits = 0;
        for (int i = 0; i < s.rocks.size(); i++) {
            bits += island(i, s.tide) ? 1 << i : 0;
        }
        return bits;
    }

    private int[] hours() {
        for (int n = 0; n <= 10; n++) {
            for (int set = 0; set < 1024; set++) {
                if (Integer.bitCount(set) == n && seesAll(set)) {
                    return new int[] {n, set};
                }
            }
        }
        throw new IllegalStateException();
    }

    private boolean seesAll(int set) {
        for (int rock = 0; rock < s.rocks.size(); rock++) {
            boolean seen = false;
            for (int t = 0; t < 10; t++) {
                seen |= (set & 1 << t) != 0 && island(rock, t);
            }
            if (!seen) {
                return false;
            }
        }
        return true;
    }

    private int boat(int x, int y, boolean[] left) {
        int least = -1;
        for (int i = 0; i < left.length; i++) {
            if (left[i]) {
                int[] rock = s.rocks.get(i);
                left[i] = false;
                int way = Math.abs(rock[0] - x) + Math.abs(rock[1] - y) + boat(rock[0], rock[1], left);
                left[i] = true;
                least = least < 0 ? way : Math.min(least, way);
            }
        }
        return least < 0 ? x + y : least;
    }
}
