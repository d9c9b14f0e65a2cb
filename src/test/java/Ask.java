/** Calls a PaidByCoast by the name of the call, so that tests can go through tables of calls. */
final class Ask {
    private Ask() {
    }

    static int of(PaidByCoast x, String call, int... a) {
        switch (call) {
            case "feed": return x.feed(a[0]);
            case "coast": return x.coast();
            case "stretch": return x.stretch(a[0], a[1]);
            case "point": return x.point(a[0], a[1]);
            case "shore": return x.shore(a[0]);
            case "tide": return x.tide(a[0]);
            case "walk": return x.walk(a[0], a[1], a[2]);
            case "place": return x.place(a[0], a[1], a[2]);
            case "best": return x.best(a[0], a[1]);
            case "span": return x.span(a[0]);
            case "finer": return x.finer(a[0]);
            case "two": return x.two(a[0], a[1], a[2]);
            case "map": return x.map(a[0], a[1]);
            case "rock": return x.rock(a[0], a[1]);
            case "islands": return x.islands();
            case "hours": return x.hours(a[0]);
            case "boat": return x.boat();
            case "cut": return x.cut(a[0], a[1]);
            case "worstCut": return x.worstCut(a[0]);
            case "copy": return x.copy(a[0], a[1]);
            case "sure": return x.sure(a[0]);
            case "row": return x.row(a[0]);
            case "judge": return x.judge(a[0], a[1]);
            case "seeds": return x.seeds(a[0], a[1]);
            case "image": return x.image();
            case "restore": return x.restore();
            case "count": return x.count(a[0]);
            default: throw new IllegalArgumentException(call);
        }
    }

    /** The call as a text has it: its name and its arguments, with blanks between. */
    static int told(PaidByCoast x, String call) {
        String[] words = call.split(" ");
        int[] a = new int[words.length - 1];
        for (int i = 0; i < a.length; i++) {
            a[i] = Integer.parseInt(words[i + 1]);
        }
        return of(x, words[0], a);
    }

    static void feedAll(PaidByCoast x, String text) {
        for (int i = 0; i < text.length(); i++) {
            x.feed(text.charAt(i));
        }
    }

    static String name(String call, int... a) {
        StringBuilder name = new StringBuilder(call).append('(');
        for (int i = 0; i < a.length; i++) {
            name.append(i == 0 ? "" : ", ").append(a[i]);
        }
        return name.append(')').toString();
    }
}
