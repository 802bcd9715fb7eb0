/** Long runs of calls, many of them wrong, answered by the class and by the model alike. */
public final class ModelTest {
    private static final int RUNS = 1500;
    // nothing is promised of an object after its 512th call
    private static final int CALLS = 512;
    private static final int LAST_LOOK = 320;
    private static final int LONGEST_STEP = 100;
    // some more than the text has room for
    private static final int LONGEST_TEXT = 266;
    private static final int[] FAR = {-1, -2, 24, 10, 8, 255, Integer.MAX_VALUE, Integer.MIN_VALUE, Integer.MIN_VALUE + 23};

    private final Checks c;
    private final SkyListeners x = new SkyListeners();
    private final Model m = new Model();
    private final int run;
    private long seed;
    private int calls = 0;

    private ModelTest(Checks c, int run) {
        this.c = c;
        this.run = run;
        this.seed = run * 7919L + 17;
    }

    public static void main(String[] args) {
        Checks c = new Checks();
        for (int run = 0; run < RUNS; run++) {
            new ModelTest(c, run).go();
        }
        c.end();
    }

    // a fixed row of numbers, so that a run that fails can be run again
    private int below(int bound) {
        seed = seed * 6364136223846793005L + 1442695040888963407L;
        return (int) ((seed >>> 33) % bound);
    }

    private int near(int bound) {
        return below(24) == 0 ? FAR[below(FAR.length)] : below(60) == 0 ? bound : below(bound);
    }

    private void same(String call, long got, long want) {
        calls++;
        c.due("run " + run + ": " + call, got, want);
    }

    private void go() {
        boolean looksBack = run % 4 == 0;
        int ends = looksBack ? CALLS - LAST_LOOK : CALLS;
        tell(goodText());
        while (calls < ends - LONGEST_STEP) {
            step();
        }
        while (calls < ends - 1) {
            ask();
        }
        if (looksBack) {
            everything();
        }
        if (calls > CALLS) {
            throw new IllegalStateException("run " + run + " has " + calls + " calls");
        }
    }

    private void step() {
        int kind = below(100);
        if (kind < 2) {
            tell(below(3) == 0 ? goodText() : spoil(goodText()));
        } else if (kind < 55) {
            change();
        } else {
            ask();
        }
    }

    private int span(int least, int most) {
        return least + below(most - least + 1);
    }

    private String gap(boolean needed) {
        String gap = " ".repeat(below(4) == 0 ? below(3) : 0);
        return needed && gap.isEmpty() ? " " : gap;
    }

    private String goodText() {
        int[] many = {below(6), below(6), below(4), below(6)};
        StringBuilder text = new StringBuilder(gap(false));
        for (int turn = 0; turn < 12; turn++) {
            int item = below(4);
            if (many[item]-- <= 0) {
                continue;
            }
            int from = below(24);
            int each = span(1, 12);
            int[] numbers = switch (item) {
                case 0 -> new int[] {below(8)};
                case 1 -> new int[] {below(8), below(10), from, span(from, 23)};
                case 2 -> new int[] {below(10), each, below(each)};
                default -> new int[] {below(8), span(1, 9)};
            };
            text.append(new String[] {"dish", "speaker", "noise", "asker"}[item]);
            for (int k = 0; k < numbers.length; k++) {
                text.append(gap(k > 0)).append(numbers[k]);
            }
            text.append(gap(false)).append(';').append(gap(false));
        }
        return text.toString();
    }

    private String spoil(String text) {
        StringBuilder spoilt = new StringBuilder(text);
        String signs = "0123456789; dishspeakernoiseasker\tZ-\u00ff\u0000{`/:";
        for (int times = span(1, 3); times > 0; times--) {
            int place = below(spoilt.length() + 1);
            char sign = signs.charAt(below(signs.length()));
            switch (below(5)) {
                case 0 -> spoilt.insert(place, sign);
                case 1 -> spoilt.setLength(place);
                case 2 -> spoilt.append(spoilt.toString());
                case 3 -> spoilt.append("dish 1;noise 1 2 1;asker 1 1;");
                default -> {
                    if (place < spoilt.length()) {
                        spoilt.setCharAt(place, sign);
                    }
                }
            }
        }
        return spoilt.substring(0, Math.min(spoilt.length(), LONGEST_TEXT));
    }

    private void tell(String text) {
        for (int i = 0; i < text.length(); ) {
            int n = Math.min(span(1, 8), text.length() - i);
            long v = below(1 << 30);
            for (int k = 0; k < n; k++) {
                v = v << 8 | text.charAt(i + k);
            }
            same("type(" + v + ", " + n + ")", x.type(v, n), m.type(v, n));
            i += n;
        }
        same("valley() of '" + text + "'", x.valley(), m.valley());
        if (below(3) > 0) {
            same("clear()", x.clear(), m.clear());
        }
        if (m.count(0) == 0 && below(4) > 0) {
            same("clear()", x.clear(), m.clear());
            String dishes = "dish 3;dish 6;asker 6 2;asker 2 5;";
            for (int i = 0; i < dishes.length(); i++) {
                same("type", x.type(dishes.charAt(i), 1), m.type(dishes.charAt(i), 1));
            }
            same("valley() of dishes", x.valley(), m.valley());
        }
    }

    private void change() {
        int d = near(Math.max(m.count(0), 1));
        int h = near(24);
        int a = near(Math.max(m.count(3), 1));
        int note = below(3) == 0 ? near(10) : 4;
        switch (below(12)) {
            case 0, 1 -> {
                int mount = near(8);
                same("turn(" + d + ", " + mount + ")", x.turn(d, mount), m.turn(d, mount));
            }
            case 2, 3, 4 -> same("lend(" + d + ", " + h + ", " + a + ")", x.lend(d, h, a), m.lend(d, h, a));
            case 5, 6, 7 -> {
                int is = near(2);
                same("heard(" + h + ", " + d + ", " + note + ", " + is + ")", x.heard(h, d, note, is), m.heard(h, d, note, is));
            }
            case 8 -> same("undo()", x.undo(), m.undo());
            case 9 -> {
                int image = near(2);
                same("keep(" + image + ")", x.keep(image), m.keep(image));
            }
            case 10 -> {
                int image = near(2);
                same("back(" + image + ")", x.back(image), m.back(image));
            }
            default -> {
                if (below(4) == 0) {
                    same("forget()", x.forget(), m.forget());
                }
            }
        }
    }

    private void ask() {
        int d = near(Math.max(m.count(0), 1));
        int h = near(24);
        int a = near(24);
        int b = below(8) == 0 ? near(24) : a >= 0 && a < 24 ? span(a, 23) : near(24);
        int what = near(2);
        int note = below(3) == 0 ? near(10) : 4;
        int i = near(5);
        switch (below(17)) {
            case 0 -> same("looks(" + d + ", " + h + ")", x.looks(d, h), m.looks(d, h));
            case 1 -> same("hears(" + d + ", " + h + ")", x.hears(d, h), m.hears(d, h));
            case 2 -> same("asker(" + i + ", " + what + ")", x.asker(i, what), m.asker(i, what));
            case 3 -> same("lent(" + i + ", " + what + ")", x.lent(i, what), m.lent(i, what));
            case 4 -> same("twice(" + what + ")", x.twice(what), m.twice(what));
            case 5 -> same("best(" + a + ", " + b + ", " + what + ")", x.best(a, b, what), m.best(a, b, what));
            case 6 -> same("chance(" + a + ", " + b + ", " + what + ")", x.chance(a, b, what), m.chance(a, b, what));
            case 7 -> same("apart(" + a + ", " + b + ", " + what + ")", x.apart(a, b, what), m.apart(a, b, what));
            case 8 -> same("sky(" + note + ")", x.sky(note), m.sky(note));
            case 9 -> same("ours(" + note + ", " + what + ")", x.ours(note, what), m.ours(note, what));
            case 10 -> same("could(" + note + ")", x.could(note), m.could(note));
            case 11, 12 -> same("must(" + note + ", " + d + ", " + h + ")", x.must(note, d, h), m.must(note, d, h));
            case 13 -> same("second(" + d + ", " + h + ")", x.second(d, h), m.second(d, h));
            case 14 -> {
                int kind = near(6);
                same("mark(" + kind + ", " + note + ")", x.mark(kind, note), m.mark(kind, note));
                same("trace()", x.trace(), m.trace());
            }
            case 15 -> {
                int of = near(8);
                same("count(" + of + ")", x.count(of), m.count(of));
            }
            default -> same("ours(" + note + ", 2)", x.ours(note, 2), m.ours(note, 2));
        }
    }

    private void everything() {
        for (int what = 0; what < 8; what++) {
            same("at the end count(" + what + ")", x.count(what), m.count(what));
        }
        for (int d = 0; d < 5; d++) {
            for (int h = 0; h < 24; h++) {
                same("at the end looks(" + d + ", " + h + ")", x.looks(d, h), m.looks(d, h));
                same("at the end hears(" + d + ", " + h + ")", x.hears(d, h), m.hears(d, h));
            }
        }
        for (int i = 0; i < 12; i++) {
            for (int what = 0; what < 3; what++) {
                same("at the end lent(" + i + ", " + what + ")", x.lent(i, what), m.lent(i, what));
            }
        }
        for (int note = 0; note < 10; note++) {
            same("at the end sky(" + note + ")", x.sky(note), m.sky(note));
            same("at the end ours(" + note + ", 0)", x.ours(note, 0), m.ours(note, 0));
        }
        for (int left = 0; left < 11; left++) {
            same("at the end undo()", x.undo(), m.undo());
        }
        same("at the end trace()", x.trace(), m.trace());
    }
}
