/** A coast that surveyors are paid for by its length; ../shared/DOC.md says what each call answers. */
public final class PaidByCoast {
    private static final int MAX_STRETCHES = 8;
    private static final int MAX_YARDS = 48;
    private static final int MAX_ROCKS = 6;
    private static final int ROCK_SETS = 64;
    private static final int MAX_LETTERS = 80;
    private static final int MAX_LETTER = 255;
    private static final int MAX_WAYS = 9;
    private static final int MAX_ROW = 12;
    private static final int MAX_WALKS = 60;
    private static final int MAX_ROD = 9;
    private static final int MAX_BEGIN = 9;
    private static final int MAX_TIDE = 9;
    private static final int TIDE_SETS = 1024;

    private static final int NONE = -9;
    private static final int NOBODY = -1;
    private static final int OTHER = -2;
    private static final int STATE = -3;
    private static final int BELOW = -4;
    private static final int ROOM = -6;
    private static final int POINT_REFUSAL = 1000000000;
    private static final int LETTER_FAULT = -1000;
    private static final int STATEMENT_FAULT = -2000;

    private final Coast now = new Coast();
    private final Coast draft = new Coast();
    private final Coast image = new Coast();
    private boolean imageTaken;
    private final Boat ferry = new Boat();
    private final Letters letters = new Letters();
    private final int[] row = new int[MAX_ROW];
    private int rowSize;
    private final int[] refusals = new int[7];

    public PaidByCoast() {
    }

    // ---- the coast and what it is told in

    public int feed(int letter) {
        if (letter < 0) {
            return refuse(BELOW);
        }
        if (letter > MAX_LETTER || !letters.append(letter)) {
            return refuse(ROOM);
        }
        return letters.size;
    }

    public int coast() {
        int wrong = letters.wrongLetter();
        int answer = wrong < 0 ? readStatements() : LETTER_FAULT - wrong;
        letters.size = 0;
        return answer;
    }

    public int stretch(int stretch, int what) {
        Shore told = now.stretchAt(stretch);
        if (told == null) {
            return refuse(NOBODY);
        }
        switch (what) {
            case 0: return told.kind();
            case 1: return told.figure;
            case 2: return told.length;
            case 3: return told.first;
            case 4: return told.isDry(now.tide) ? 1 : 0;
            case 5: return told.fee();
            default: return refuse(OTHER);
        }
    }

    public int point(int place, int what) {
        if (!now.hasPlace(place)) {
            return POINT_REFUSAL - refuse(NOBODY);
        }
        switch (what) {
            case 0: return now.xAt(place);
            case 1: return now.yAt(place);
            default: return POINT_REFUSAL - refuse(OTHER);
        }
    }

    public int shore(int place) {
        if (!now.hasPlace(place)) {
            return refuse(NOBODY);
        }
        return holds(now.shoreNow(), place) ? 1 : 0;
    }

    public int tide(int v) {
        if (v < 0) {
            return refuse(BELOW);
        }
        if (v > MAX_TIDE) {
            return refuse(ROOM);
        }
        int before = now.tide;
        now.tide = v;
        return before;
    }

    // ---- walks

    public int walk(int rod, int begin, int what) {
        if (what < 0 || what > 4) {
            return refuse(OTHER);
        }
        int refusal = walkRefusal(rod, begin);
        if (refusal != 0) {
            return refuse(refusal);
        }
        long shore = now.shoreNow();
        long reached = now.reachedFrom(shore, rod, begin);
        switch (what) {
            case 0: return stepsOf(reached);
            case 1: return rod * stepsOf(reached);
            case 2: return payOf(reached, rod);
            case 3: return lastOf(reached);
            default: return overOf(shore, reached);
        }
    }

    public int place(int rod, int begin, int i) {
        if (i < 0) {
            return refuse(BELOW);
        }
        int refusal = walkRefusal(rod, begin);
        if (refusal != 0) {
            return refuse(refusal);
        }
        return memberOf(now.reachedFrom(now.shoreNow(), rod, begin), i);
    }

    public int best(int what, int much) {
        if (what < 0 || what > 2 || much < 0 || much > 1) {
            return refuse(OTHER);
        }
        long shore = now.shoreNow();
        int which = NONE;
        int amount = 0;
        for (int rod = 1; rod <= MAX_ROD; rod++) {
            for (int begin = 0; begin <= MAX_BEGIN; begin++) {
                long reached = now.reachedFrom(shore, rod, begin);
                int value = what == 2 ? rod * stepsOf(reached) : payOf(reached, rod);
                boolean better = what == 1 ? value < amount : value > amount;
                if (which == NONE || better) {
                    which = 10 * rod + begin;
                    amount = value;
                }
            }
        }
        return much == 0 ? which : amount;
    }

    public int span(int rod) {
        int refusal = rodRefusal(rod);
        if (refusal != 0) {
            return refuse(refusal);
        }
        long shore = now.shoreNow();
        int most = now.milesOf(shore, rod, 0);
        int least = most;
        for (int begin = 1; begin <= MAX_BEGIN; begin++) {
            int miles = now.milesOf(shore, rod, begin);
            most = Math.max(most, miles);
            least = Math.min(least, miles);
        }
        return most - least;
    }

    public int finer(int begin) {
        int refusal = walkRefusal(1, begin);
        if (refusal != 0) {
            return refuse(refusal);
        }
        long shore = now.shoreNow();
        int more = 0;
        int shorter = now.milesOf(shore, 1, begin);
        for (int rod = 2; rod <= MAX_ROD; rod++) {
            int miles = now.milesOf(shore, rod, begin);
            if (miles > shorter) {
                more++;
            }
            shorter = miles;
        }
        return more;
    }

    public int two(int rod, int other, int what) {
        if (what < 0 || what > 1) {
            return refuse(OTHER);
        }
        if (rod < 1 || other < 1) {
            return refuse(BELOW);
        }
        if (rod > MAX_ROD || other > MAX_ROD) {
            return refuse(ROOM);
        }
        return now.milesOfTwo(rod, other, what == 0);
    }

    public int map(int miles, int what) {
        if (what < 0 || what > 1) {
            return refuse(OTHER);
        }
        if (miles < 0) {
            return refuse(BELOW);
        }
        int first = NONE;
        int found = 0;
        for (int rod = 1; rod <= MAX_ROD; rod++) {
            for (int begin = 0; begin <= MAX_BEGIN; begin++) {
                for (int hour = 0; hour <= MAX_TIDE; hour++) {
                    if (now.milesOf(now.shoreAt(hour), rod, begin) == miles) {
                        found++;
                        first = first == NONE ? 100 * rod + 10 * begin + hour : first;
                    }
                }
            }
        }
        return what == 0 ? found : first;
    }

    // ---- rocks

    public int rock(int rock, int what) {
        Rock told = now.rocks.rockAt(rock);
        if (told == null) {
            return refuse(NOBODY);
        }
        switch (what) {
            case 0: return told.x;
            case 1: return told.y;
            case 2: return told.low;
            case 3: return told.high;
            case 4: return told.isIsland(now.tide) ? 1 : 0;
            default: return refuse(OTHER);
        }
    }

    public int islands() {
        return now.rocks.islandsAt(now.tide);
    }

    public int hours(int what) {
        if (what < 0 || what > 1) {
            return refuse(OTHER);
        }
        int set = now.rocks.fewestHours();
        return what == 0 ? Integer.bitCount(set) : set;
    }

    public int boat() {
        return ferry.roundTrip(now.rocks, now.rocks.islandsAt(now.tide));
    }

    // ---- coasts that are not quite this one

    public int cut(int stretch, int rod) {
        Shore told = now.stretchAt(stretch);
        if (told == null) {
            return refuse(NOBODY);
        }
        int refusal = rodRefusal(rod);
        if (refusal != 0) {
            return refuse(refusal);
        }
        return now.milesWithout(told, rod);
    }

    public int worstCut(int rod) {
        int refusal = rodRefusal(rod);
        if (refusal != 0) {
            return refuse(refusal);
        }
        int worst = NONE;
        int least = 0;
        for (int i = 0; i < MAX_STRETCHES; i++) {
            Shore told = now.stretchAt(i);
            if (told != null) {
                int miles = now.milesWithout(told, rod);
                if (worst == NONE || miles < least) {
                    worst = i;
                    least = miles;
                }
            }
        }
        return worst;
    }

    public int copy(int c, int rod) {
        if (c < 1 || rod < 1) {
            return refuse(BELOW);
        }
        if (c > 9 || rod > MAX_ROD) {
            return refuse(ROOM);
        }
        return now.milesOf(eachOf(now.shoreNow(), c), rod, 0);
    }

    public int sure(int rod) {
        int refusal = rodRefusal(rod);
        if (refusal != 0) {
            return refuse(refusal);
        }
        long shore = now.shoreNow();
        long reachedByAll = shore;
        for (int r = 1; r <= rod; r++) {
            reachedByAll &= now.reachedFrom(shore, r, 0);
        }
        return Long.bitCount(reachedByAll);
    }

    // ---- told walks, surveyors by lot

    public int row(int place) {
        if (place < 0) {
            return refuse(BELOW);
        }
        if (place > MAX_YARDS || rowSize < 0 || rowSize >= row.length) {
            return refuse(ROOM);
        }
        row[rowSize] = place;
        rowSize++;
        return rowSize;
    }

    public int judge(int rod, int begin) {
        int refusal = walkRefusal(rod, begin);
        if (refusal != 0) {
            return refuse(refusal);
        }
        long reached = now.reachedFrom(now.shoreNow(), rod, begin);
        int wrong = NONE;
        for (int i = 0; i < rowSize && i < row.length && wrong == NONE; i++) {
            if (row[i] != memberOf(reached, i)) {
                wrong = i;
            }
        }
        rowSize = 0;
        return wrong;
    }

    public int seeds(int n, int z) {
        if (n < 1) {
            return refuse(BELOW);
        }
        if (n > MAX_WALKS) {
            return refuse(ROOM);
        }
        int together = 0;
        int state = z;
        for (int i = 0; i < n; i++) {
            state = nextState(state);
            int rod = 1 + drawBelow(9, state);
            state = nextState(state);
            int begin = drawBelow(10, state);
            state = nextState(state);
            int hour = drawBelow(10, state);
            together += now.milesOf(now.shoreAt(hour), rod, begin);
        }
        return together;
    }

    // ---- the image, counts

    public int image() {
        image.become(now);
        imageTaken = true;
        return now.yards;
    }

    public int restore() {
        if (!imageTaken) {
            return refuse(STATE);
        }
        now.become(image);
        return now.yards;
    }

    public int count(int what) {
        switch (what) {
            case 0: return now.stretchCount;
            case 1: return now.yards;
            case 2: return now.tide;
            case 3: return Long.bitCount(now.shoreNow());
            case 4: return now.rocks.size;
            case 5: return letters.size;
            case 6: return rowSize;
            case 7: return now.feesOfStretches();
            default: return refusalsOf(what - 10);
        }
    }

    // ---- refusals

    private int refuse(int number) {
        int kind = -number;
        if (kind >= 0 && kind < refusals.length) {
            refusals[kind]++;
        }
        return number;
    }

    private int refusalsOf(int kind) {
        if (kind < 1 || kind >= refusals.length) {
            return NONE;
        }
        return refusals[kind];
    }

    private static int rodRefusal(int rod) {
        return walkRefusal(rod, 0);
    }

    private static int walkRefusal(int rod, int begin) {
        if (rod < 1 || begin < 0) {
            return BELOW;
        }
        return rod > MAX_ROD || begin > MAX_BEGIN ? ROOM : 0;
    }

    // ---- letters

    private int readStatements() {
        // Each statement must fit behind those ahead of it, and a fault must leave the coast as it is.
        draft.become(now);
        int statements = 0;
        int start = 0;
        for (int i = 0; i < MAX_LETTERS && start < letters.size; i++) {
            if (!letters.tell(draft, start)) {
                return STATEMENT_FAULT - start;
            }
            start = letters.behindStatement(start);
            statements++;
        }
        now.become(draft);
        return statements;
    }

    // ---- sets of places, a bit each

    private static boolean holds(long set, int place) {
        return place >= 0 && place <= MAX_YARDS && (set >> place & 1L) != 0;
    }

    private static int memberOf(long set, int i) {
        int ahead = i;
        for (int place = 0; place <= MAX_YARDS; place++) {
            if (holds(set, place)) {
                if (ahead == 0) {
                    return place;
                }
                ahead--;
            }
        }
        return NONE;
    }

    private static int lastOf(long set) {
        for (int place = MAX_YARDS; place >= 0; place--) {
            if (holds(set, place)) {
                return place;
            }
        }
        return NONE;
    }

    private static long eachOf(long set, int c) {
        long kept = 0;
        int between = 0;
        for (int place = 0; place <= MAX_YARDS; place++) {
            if (holds(set, place)) {
                if (between == 0) {
                    kept |= 1L << place;
                    between = c;
                }
                between--;
            }
        }
        return kept;
    }

    // ---- what a walk is worth, by the places it has reached

    private static int stepsOf(long reached) {
        return Math.max(0, Long.bitCount(reached) - 1);
    }

    private int payOf(long reached, int rod) {
        // Where a walk begins no step ends: no fee is due there.
        long ends = reached & (reached - 1);
        return rod * stepsOf(reached) + now.feesOf(ends);
    }

    private static int overOf(long shore, long reached) {
        int last = lastOf(reached);
        return last < 0 ? 0 : Long.bitCount(shore >> (last + 1));
    }

    // ---- draws

    private static int nextState(int z) {
        return z * 1103515245 + 12345;
    }

    private static int drawBelow(int n, int z) {
        return n < 1 ? 0 : ((z & 0x7fffffff) >> 16) % n;
    }

    /** A stretch of the kind SHORE, and what the other kinds have of it. */
    private static class Shore {
        final int figure;
        final int first;
        final int length;

        Shore(int figure, int first, int length) {
            this.figure = figure;
            this.first = first;
            this.length = length;
        }

        int kind() {
            return 0;
        }

        boolean isDry(int tide) {
            return true;
        }

        int fee() {
            return 1;
        }

        final long places() {
            return ((1L << length) - 1) << first;
        }
    }

    private static class Sand extends Shore {
        Sand(int figure, int first, int length) {
            super(figure, first, length);
        }

        int kind() {
            return 1;
        }

        boolean isDry(int tide) {
            return tide <= figure;
        }

        int fee() {
            return super.fee() + 1;
        }
    }

    private static final class River extends Shore {
        River(int figure, int first, int length) {
            super(figure, first, length);
        }

        int kind() {
            return 2;
        }

        boolean isDry(int tide) {
            return false;
        }

        int fee() {
            return 0;
        }
    }

    private static class Cliff extends Shore {
        Cliff(int figure, int first, int length) {
            super(figure, first, length);
        }

        int kind() {
            return 3;
        }

        int fee() {
            return super.fee() + figure;
        }
    }

    private static final class Marsh extends Sand {
        Marsh(int figure, int first, int length) {
            super(figure, first, length);
        }

        int kind() {
            return 4;
        }

        boolean isDry(int tide) {
            return super.isDry(tide) && (tide & 1) == 0;
        }

        int fee() {
            return 2 * super.fee();
        }
    }

    private static final class Wall extends Cliff {
        Wall(int figure, int first, int length) {
            super(figure, first, length);
        }

        int kind() {
            return 5;
        }

        boolean isDry(int tide) {
            return super.isDry(tide) && tide != figure;
        }

        int fee() {
            return super.fee() - 1;
        }
    }

    private static final class Rock {
        private final int x;
        private final int y;
        private final int low;
        private final int high;

        Rock(int x, int y, int low, int high) {
            this.x = x;
            this.y = y;
            this.low = low;
            this.high = high;
        }

        boolean isIsland(int tide) {
            return tide >= low && tide <= high;
        }
    }

    private static final class Rocks {
        private final Rock[] rocks = new Rock[MAX_ROCKS];
        private int size;

        Rock rockAt(int i) {
            return i < 0 || i >= size || i >= rocks.length ? null : rocks[i];
        }

        boolean append(int x, int y, int low, int high) {
            if (low > high || size < 0 || size >= rocks.length) {
                return false;
            }
            rocks[size] = new Rock(x, y, low, high);
            size++;
            return true;
        }

        void become(Rocks other) {
            size = other.size;
            for (int i = 0; i < rocks.length; i++) {
                rocks[i] = other.rockAt(i);
            }
        }

        int islandsAt(int tide) {
            int set = 0;
            for (int i = 0; i < MAX_ROCKS; i++) {
                Rock rock = rockAt(i);
                if (rock != null && rock.isIsland(tide)) {
                    set |= 1 << i;
                }
            }
            return set;
        }

        int fewestHours() {
            int fewest = TIDE_SETS - 1;
            for (int set = 0; set < TIDE_SETS; set++) {
                if (Integer.bitCount(set) < Integer.bitCount(fewest) && showsAll(set)) {
                    fewest = set;
                }
            }
            return fewest;
        }

        private boolean showsAll(int hours) {
            int seen = 0;
            for (int tide = 0; tide <= MAX_TIDE; tide++) {
                if ((hours >> tide & 1) != 0) {
                    seen |= islandsAt(tide);
                }
            }
            return Integer.bitCount(seen) == size;
        }

        int yardsFromHome(int i) {
            Rock rock = rockAt(i);
            return rock == null ? 0 : rock.x + rock.y;
        }

        int yardsBetween(int i, int j) {
            Rock one = rockAt(i);
            Rock other = rockAt(j);
            if (one == null || other == null) {
                return 0;
            }
            return Math.abs(one.x - other.x) + Math.abs(one.y - other.y);
        }
    }

    /** The least ways from 0, 0 by every set of rocks, for each rock that may be the set's last. */
    private static final class Boat {
        private static final int FAR = 1000000;
        private final int[] ways = new int[ROCK_SETS * MAX_ROCKS];

        int roundTrip(Rocks rocks, int islands) {
            if (islands == 0) {
                return 0;
            }
            for (int set = 1; set < ROCK_SETS; set++) {
                if ((set & ~islands) == 0) {
                    putWays(rocks, set);
                }
            }
            int least = FAR;
            for (int last = 0; last < MAX_ROCKS; last++) {
                least = Math.min(least, wayBy(islands, last) + rocks.yardsFromHome(last));
            }
            return least;
        }

        private void putWays(Rocks rocks, int set) {
            for (int last = 0; last < MAX_ROCKS; last++) {
                int index = set * MAX_ROCKS + last;
                if (index >= 0 && index < ways.length) {
                    ways[index] = leastWay(rocks, set, last);
                }
            }
        }

        private int leastWay(Rocks rocks, int set, int last) {
            if ((set >> last & 1) == 0) {
                return FAR;
            }
            int rest = set & ~(1 << last);
            if (rest == 0) {
                return rocks.yardsFromHome(last);
            }
            int least = FAR;
            for (int before = 0; before < MAX_ROCKS; before++) {
                least = Math.min(least, wayBy(rest, before) + rocks.yardsBetween(before, last));
            }
            return least;
        }

        private int wayBy(int set, int last) {
            int index = set * MAX_ROCKS + last;
            return index < 0 || index >= ways.length ? FAR : ways[index];
        }
    }

    /** All that an image keeps: stretches, yards, rocks, tide. */
    private static final class Coast {
        private final Shore[] stretches = new Shore[MAX_STRETCHES];
        private int stretchCount;
        private final int[] xs = new int[MAX_YARDS + 1];
        private final int[] ys = new int[MAX_YARDS + 1];
        private int yards;
        private final Rocks rocks = new Rocks();
        private int tide;

        void become(Coast other) {
            stretchCount = other.stretchCount;
            for (int i = 0; i < stretches.length; i++) {
                stretches[i] = other.stretchAt(i);
            }
            yards = other.yards;
            for (int place = 0; place < xs.length && place < ys.length; place++) {
                xs[place] = other.xAt(place);
                ys[place] = other.yAt(place);
            }
            rocks.become(other.rocks);
            tide = other.tide;
        }

        Shore stretchAt(int i) {
            return i < 0 || i >= stretchCount || i >= stretches.length ? null : stretches[i];
        }

        boolean appendStretch(int kind, int figure, int length) {
            if (stretchCount < 0 || stretchCount >= stretches.length || yards + length > MAX_YARDS) {
                return false;
            }
            Shore stretch;
            int first = yards + 1;
            switch (kind) {
                case 0: stretch = new Shore(figure, first, length); break;
                case 1: stretch = new Sand(figure, first, length); break;
                case 2: stretch = new River(figure, first, length); break;
                case 3: stretch = new Cliff(figure, first, length); break;
                case 4: stretch = new Marsh(figure, first, length); break;
                case 5: stretch = new Wall(figure, first, length); break;
                default: return false;
            }
            stretches[stretchCount] = stretch;
            stretchCount++;
            return true;
        }

        void appendYard(int way) {
            int x = xAt(yards) + (way == 'e' ? 1 : 0) - (way == 'w' ? 1 : 0);
            int y = yAt(yards) + (way == 'n' ? 1 : 0) - (way == 's' ? 1 : 0);
            int place = yards + 1;
            if (place >= 0 && place < xs.length && place < ys.length) {
                xs[place] = x;
                ys[place] = y;
                yards = place;
            }
        }

        boolean hasPlace(int place) {
            return place >= 0 && place <= yards;
        }

        int xAt(int place) {
            return place < 0 || place >= xs.length ? 0 : xs[place];
        }

        int yAt(int place) {
            return place < 0 || place >= ys.length ? 0 : ys[place];
        }

        long shoreNow() {
            return shoreAt(tide);
        }

        long shoreAt(int hour) {
            long shore = 1L;
            for (int i = 0; i < MAX_STRETCHES; i++) {
                Shore stretch = stretchAt(i);
                if (stretch != null && stretch.isDry(hour)) {
                    shore |= stretch.places();
                }
            }
            return shore;
        }

        int feesOfStretches() {
            int fees = 0;
            for (int i = 0; i < MAX_STRETCHES; i++) {
                Shore stretch = stretchAt(i);
                fees += stretch == null ? 0 : stretch.fee();
            }
            return fees;
        }

        int feesOf(long ends) {
            int fees = 0;
            for (int i = 0; i < MAX_STRETCHES; i++) {
                Shore stretch = stretchAt(i);
                if (stretch != null) {
                    fees += stretch.fee() * Long.bitCount(ends & stretch.places());
                }
            }
            return fees;
        }

        private boolean isRodApart(int one, int other, int rod) {
            int dx = xAt(one) - xAt(other);
            int dy = yAt(one) - yAt(other);
            return dx * dx + dy * dy >= rod * rod;
        }

        /** The places of a walk, where it begins too. */
        long reachedFrom(long shore, int rod, int begin) {
            long reached = 0;
            int at = NONE;
            for (int place = begin; place <= yards; place++) {
                if (holds(shore, place) && (at == NONE || isRodApart(at, place, rod))) {
                    reached |= 1L << place;
                    at = place;
                }
            }
            return reached;
        }

        int milesOf(long shore, int rod, int begin) {
            return rod * stepsOf(reachedFrom(shore, rod, begin));
        }

        int milesWithout(Shore stretch, int rod) {
            return milesOf(shoreNow() & ~stretch.places(), rod, 0);
        }

        int milesOfTwo(int rod, int other, boolean ofFirst) {
            long shore = shoreNow();
            int low = 0;
            int high = lastOf(shore);
            int lowSteps = 0;
            int highSteps = 0;
            // Who is out once stays out, as the room between the two only shrinks: nobody need be told so.
            for (int turn = 0; turn < MAX_YARDS; turn++) {
                int next = stepFrom(shore, low, rod, 1);
                if (next != NONE && next < high) {
                    low = next;
                    lowSteps++;
                }
                next = stepFrom(shore, high, other, -1);
                if (next != NONE && low < next) {
                    high = next;
                    highSteps++;
                }
            }
            return ofFirst ? rod * lowSteps : other * highSteps;
        }

        private int stepFrom(long shore, int from, int rod, int way) {
            for (int i = 1; i <= yards; i++) {
                int place = from + i * way;
                if (holds(shore, place) && isRodApart(from, place, rod)) {
                    return place;
                }
            }
            return NONE;
        }
    }

    /** The text so far: its grammar, and what a statement of it adds to a coast. */
    private static final class Letters {
        private final int[] text = new int[MAX_LETTERS];
        private int size;

        boolean append(int letter) {
            if (size < 0 || size >= text.length) {
                return false;
            }
            text[size] = letter;
            size++;
            return true;
        }

        // What stands behind the end fits nowhere, so that the end is told as a wrong letter is.
        private int letterAt(int place) {
            return place < 0 || place >= size || place >= text.length ? -1 : text[place];
        }

        private boolean isDigit(int place) {
            int letter = letterAt(place);
            return letter >= '0' && letter <= '9';
        }

        private int digitAt(int place) {
            return letterAt(place) - '0';
        }

        private int pairAt(int place) {
            return 10 * digitAt(place) + digitAt(place + 1);
        }

        private boolean isWay(int place) {
            int letter = letterAt(place);
            return letter == 'n' || letter == 'e' || letter == 's' || letter == 'w';
        }

        private int waysFrom(int place) {
            int ways = 0;
            while (ways < MAX_WAYS && isWay(place + ways)) {
                ways++;
            }
            return ways;
        }

        private static int digitsOf(int statement) {
            switch (statement) {
                case 'c': return 2;
                case 'r': return 6;
                case 't': return 1;
                default: return -1;
            }
        }

        /** The place behind a statement's ";"; or -1 less the place of its first wrong letter. */
        int behindStatement(int start) {
            int digits = digitsOf(letterAt(start));
            if (digits < 0) {
                return -1 - start;
            }
            int place = start + 1;
            for (int i = 0; i < digits; i++) {
                if (!isDigit(place)) {
                    return -1 - place;
                }
                place++;
            }
            if (letterAt(start) == 'c') {
                int ways = waysFrom(place);
                if (ways == 0) {
                    return -1 - place;
                }
                place += ways;
            }
            return letterAt(place) == ';' ? place + 1 : -1 - place;
        }

        /** The place of the first letter with which no text can go on; -1 there is none. */
        int wrongLetter() {
            int start = 0;
            for (int i = 0; i < MAX_LETTERS && (i == 0 || start < size); i++) {
                int behind = behindStatement(start);
                if (behind < 0) {
                    return -1 - behind;
                }
                start = behind;
            }
            return -1;
        }

        /** Whether the statement that begins there has come to the coast; what it says may not fit. */
        boolean tell(Coast coast, int start) {
            switch (letterAt(start)) {
                case 'c':
                    int ways = waysFrom(start + 3);
                    boolean fits = coast.appendStretch(digitAt(start + 1), digitAt(start + 2), ways);
                    for (int i = 0; fits && i < ways; i++) {
                        coast.appendYard(letterAt(start + 3 + i));
                    }
                    return fits;
                case 'r':
                    return coast.rocks.append(pairAt(start + 1), pairAt(start + 3), digitAt(start + 5), digitAt(start + 6));
                default:
                    coast.tide = digitAt(start + 1);
                    return true;
            }
        }
    }
}
