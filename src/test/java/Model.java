import java.math.BigInteger;
import java.util.ArrayDeque;
import java.util.ArrayList;
import java.util.List;
import java.util.regex.Matcher;
import java.util.regex.Pattern;

/** The document once more, by lists and by trying all there is: slow, and with nothing of the class in it. */
final class Model {
    private static final Pattern TOKEN = Pattern.compile(" *([a-z]+|[0-9]+|;|$|[\\s\\S])");

    private record Lending(int dish, int hour, int asker) {}
    private record Logged(int hour, int dish, int note, int is) {}
    private record Token(int start, String text) {}
    private record Done(boolean lending, int dish, int mount) {}
    private record Image(List<Integer> mounts, List<Lending> lendings, List<Logged> log, List<Done> undos) {}

    private String text = "";
    private List<int[]> speakers = new ArrayList<>();
    private List<int[]> noises = new ArrayList<>();
    private List<int[]> askers = new ArrayList<>();
    private List<Integer> mounts = new ArrayList<>();
    private List<Lending> lendings = new ArrayList<>();
    private List<Logged> log = new ArrayList<>();
    private List<Done> undos = new ArrayList<>();
    private final Image[] images = new Image[2];
    private long traced = 0;

    int type(long v, int n) {
        if (n < 1 || n > 8) return -1;
        if (text.length() + n > 250) return -3;
        String hex = String.format("%016x", v);
        for (int i = 8 - n; i < 8; i++) text += (char) Integer.parseInt(hex.substring(2 * i, 2 * i + 2), 16);
        return text.length();
    }

    int clear() {
        int had = text.length();
        text = "";
        return had;
    }

    private static int word(String t) {
        return List.of("dish", "speaker", "noise", "asker").indexOf(t);
    }

    private static boolean in(Token t, int least, int most) {
        if (!t.text.matches("0|[1-9][0-9]?")) return false;
        int number = Integer.parseInt(t.text);
        return number >= least && number <= most;
    }

    int valley() {
        List<Token> tokens = new ArrayList<>();
        Matcher m = TOKEN.matcher(text);
        for (int from = 0; from <= text.length() && m.find(from); from = Math.max(m.end(), from + 1)) {
            tokens.add(new Token(m.start(1), m.group(1)));
            if (m.group(1).isEmpty()) break;
        }
        ArrayDeque<Token> left = new ArrayDeque<>(tokens);
        Token end = new Token(text.length(), "");
        int[] room = {5, 5, 3, 5};
        List<List<int[]>> told = List.of(new ArrayList<>(), new ArrayList<>(), new ArrayList<>(), new ArrayList<>());
        int items = 0;
        while (!left.isEmpty() && !left.peek().text.isEmpty()) {
            Token head = left.poll();
            int item = word(head.text);
            if (item < 0 || told.get(item).size() == room[item]) return -10 - head.start;
            int[] row = new int[new int[] {1, 4, 3, 2}[item]];
            for (int k = 0; k < row.length; k++) {
                Token t = left.isEmpty() ? end : left.poll();
                boolean good = switch (item * 10 + k) {
                    case 0, 10, 30 -> in(t, 0, 7);
                    case 11, 20 -> in(t, 0, 9);
                    case 12 -> in(t, 0, 23);
                    case 13 -> in(t, row[2], 23);
                    case 21 -> in(t, 1, 12);
                    case 22 -> in(t, 0, row[1] - 1);
                    default -> in(t, 1, 9);
                };
                if (!good) return -10 - t.start;
                row[k] = Integer.parseInt(t.text);
            }
            Token stop = left.isEmpty() ? end : left.poll();
            if (!stop.text.equals(";")) return -10 - stop.start;
            told.get(item).add(row);
            items++;
        }
        mounts = new ArrayList<>();
        for (int[] dish : told.get(0)) mounts.add(dish[0]);
        speakers = told.get(1);
        noises = told.get(2);
        askers = told.get(3);
        lendings = new ArrayList<>();
        log = new ArrayList<>();
        undos = new ArrayList<>();
        images[0] = images[1] = null;
        text = "";
        return items;
    }

    private boolean dish(int d) { return 0 <= d && d < mounts.size(); }
    private static boolean to(int number, int most) { return 0 <= number && number <= most; }
    private int place(int d, int h) { return (mounts.get(d) + 8 - h % 8) % 8; }

    int looks(int d, int h) { return dish(d) && to(h, 23) ? place(d, h) : -1; }

    int hears(int d, int h) {
        if (!dish(d) || !to(h, 23)) return -1;
        int bits = 0;
        for (int note = 0; note < 10; note++) {
            boolean is = false;
            for (int[] s : speakers) is |= s[1] == note && s[0] == place(d, h) && h >= s[2] && h <= s[3];
            for (int[] n : noises) is |= n[0] == note && h % n[1] == n[2];
            if (is) bits += 1 << note;
        }
        return bits;
    }

    int asker(int a, int what) { return 0 <= a && a < askers.size() && to(what, 1) ? askers.get(a)[what] : -1; }

    private void did(Done done) {
        undos.add(done);
        if (undos.size() > 10) undos.remove(0);
    }

    int turn(int d, int mount) {
        if (!dish(d) || !to(mount, 7)) return -1;
        if (mounts.get(d) == mount) return -2;
        did(new Done(false, d, mounts.get(d)));
        return mounts.set(d, mount);
    }

    int lend(int d, int h, int a) {
        if (!dish(d) || !to(h, 23) || a < 0 || a >= askers.size()) return -1;
        if (lendings.size() == 12) return -3;
        lendings.add(new Lending(d, h, a));
        did(new Done(true, d, 0));
        return lendings.size();
    }

    int lent(int i, int what) {
        if (i < 0 || i >= lendings.size() || !to(what, 2)) return -1;
        Lending l = lendings.get(i);
        return new int[] {l.dish, l.hour, l.asker}[what];
    }

    int twice(int what) {
        if (!to(what, 1)) return -1;
        if (what == 1) return (int) lendings.stream().filter(l -> place(l.dish, l.hour) != askers.get(l.asker)[0]).count();
        List<String> ahead = new ArrayList<>();
        for (Lending l : lendings) {
            String slot = l.dish + "/" + l.hour;
            if (ahead.contains(slot)) return ahead.size();
            ahead.add(slot);
        }
        return -9;
    }

    int undo() {
        if (undos.isEmpty()) return -2;
        Done done = undos.remove(undos.size() - 1);
        if (done.lending) lendings.remove(lendings.size() - 1);
        else mounts.set(done.dish, done.mount);
        return undos.size();
    }

    private static boolean bad(int a, int b, int what) { return !to(a, 23) || !to(b, 23) || b < a || !to(what, 1); }

    /** Whether the askers of the set from the i-th on can each be given a slot of their own. */
    private boolean canLend(int set, int i, int a, int b, boolean[][] taken) {
        if (i == askers.size()) return true;
        if ((set >> i & 1) == 0) return canLend(set, i + 1, a, b, taken);
        for (int d = 0; d < mounts.size(); d++) {
            for (int h = a; h <= b; h++) {
                if (!taken[d][h] && place(d, h) == askers.get(i)[0]) {
                    taken[d][h] = true;
                    boolean can = canLend(set, i + 1, a, b, taken);
                    taken[d][h] = false;
                    // one free slot of a place is as good as another
                    return can;
                }
            }
        }
        return false;
    }

    int best(int a, int b, int what) {
        if (bad(a, b, what)) return -1;
        int most = -1;
        int found = -1;
        for (int set = (1 << askers.size()) - 1; set >= 0; set--) {
            int sure = 0;
            for (int i = 0; i < askers.size(); i++) if ((set >> i & 1) == 1) sure += askers.get(i)[1];
            if (sure >= most && canLend(set, 0, a, b, new boolean[5][24])) {
                most = sure;
                found = set;
            }
        }
        return what == 0 ? most : found;
    }

    int chance(int a, int b, int what) {
        if (bad(a, b, what)) return -1;
        BigInteger upper = BigInteger.ZERO;
        BigInteger lower = BigInteger.ONE;
        for (int[] asker : askers) {
            boolean seen = false;
            for (int d = 0; d < mounts.size(); d++) for (int h = a; h <= b; h++) seen |= place(d, h) == asker[0];
            if (!seen) continue;
            // right, or wrong and one of those ahead right
            BigInteger sure = BigInteger.valueOf(asker[1]);
            upper = lower.multiply(sure).add(upper.multiply(BigInteger.TEN.subtract(sure)));
            lower = lower.multiply(BigInteger.TEN);
        }
        BigInteger common = upper.gcd(lower);
        return (what == 0 ? upper : lower).divide(common).intValueExact();
    }

    int apart(int a, int b, int what) {
        if (bad(a, b, what)) return -1;
        for (int many = 0; many <= mounts.size(); many++) {
            for (int set = 0; set < 1 << mounts.size(); set++) {
                if (Integer.bitCount(set) == many && apartBy(set, a, b)) return what == 0 ? many : set;
            }
        }
        return -9;
    }

    private boolean apartBy(int set, int a, int b) {
        for (int p = 0; p < 8; p++) {
            for (int q = 0; q < p; q++) {
                boolean apart = false;
                for (int d = 0; d < mounts.size(); d++) {
                    for (int h = a; h <= b; h++) {
                        apart |= (set >> d & 1) == 1 && (place(d, h) == p) != (place(d, h) == q);
                    }
                }
                if (!apart) return false;
            }
        }
        return true;
    }

    int heard(int h, int d, int note, int is) {
        if (!to(h, 23) || !dish(d) || !to(note, 9) || !to(is, 1)) return -1;
        if (log.size() == 10) return -3;
        log.add(new Logged(h, d, note, is));
        return log.size();
    }

    int forget() {
        int had = log.size();
        log.clear();
        return had;
    }

    private boolean fits(int note, int p, int from, int to) {
        for (Logged l : log) {
            boolean hears = place(l.dish, l.hour) == p && from <= l.hour && l.hour <= to;
            if (l.note == note && hears != (l.is == 1)) return false;
        }
        return true;
    }

    int sky(int note) {
        if (!to(note, 9)) return -1;
        int bits = 0;
        for (int p = 0; p < 8; p++) if (fits(note, p, 0, 23)) bits += 1 << p;
        return bits;
    }

    int ours(int note, int what) {
        if (!to(note, 9) || !to(what, 2)) return -1;
        List<int[]> laws = new ArrayList<>();
        for (int each = 1; each <= 12; each++) {
            for (int since = 0; since < each; since++) {
                int e = each;
                int s = since;
                if (log.stream().allMatch(l -> l.note != note || (l.hour % e == s) == (l.is == 1))) laws.add(new int[] {e, s});
            }
        }
        return what == 0 ? laws.size() : laws.isEmpty() ? -9 : laws.get(0)[what - 1];
    }

    private int speakersWho(int note, int d, int h, boolean mustHear) {
        int many = 0;
        for (int p = 0; p < 8; p++) {
            for (int from = 0; from < 24; from++) {
                for (int to = from; to < 24; to++) {
                    boolean hears = mustHear && place(d, h) == p && from <= h && h <= to;
                    if ((hears || !mustHear) && fits(note, p, from, to)) many++;
                }
            }
        }
        return many;
    }

    int could(int note) { return to(note, 9) ? speakersWho(note, 0, 0, false) : -1; }

    int must(int note, int d, int h) {
        if (!to(note, 9) || !dish(d) || !to(h, 23)) return -1;
        int all = could(note);
        int hear = speakersWho(note, d, h, true);
        return all == 0 ? -9 : hear == all ? 1 : hear == 0 ? 0 : -5;
    }

    int second(int d, int h) {
        if (!dish(d) || !to(h, 23)) return -1;
        int many = 0;
        for (int other = 0; other < mounts.size(); other++) {
            boolean looks = false;
            for (int later = h; later < 24; later++) looks |= place(other, later) == place(d, h);
            if (looks && other != d) many++;
        }
        return many;
    }

    private class Note {
        int mark(int note) { traced += 1; return note; }
    }
    private class Voice extends Note {
        @Override int mark(int note) { traced += 10; return super.mark(note) + (int) speakers.stream().filter(s -> s[1] == note).count(); }
    }
    private class Hum extends Note {
        @Override int mark(int note) { traced += 100; return super.mark(note) - (int) noises.stream().filter(n -> n[0] == note).count(); }
    }
    private class Call extends Voice {
        @Override int mark(int note) { traced += 1000; return super.mark(note) * 2; }
    }
    private class Kettle extends Hum {
        @Override int mark(int note) { traced += 10000; return super.mark(note) + (int) log.stream().filter(l -> l.note == note && l.is == 1).count(); }
    }
    private class Echo extends Note {
        @Override int mark(int note) { traced += 100000; return super.mark(note) + mounts.size(); }
    }

    int mark(int kind, int note) {
        if (!to(kind, 5) || !to(note, 9)) return -1000000;
        return List.of(new Note(), new Voice(), new Hum(), new Call(), new Kettle(), new Echo()).get(kind).mark(note);
    }

    int keep(int image) {
        if (!to(image, 1)) return -1;
        images[image] = new Image(List.copyOf(mounts), List.copyOf(lendings), List.copyOf(log), List.copyOf(undos));
        return lendings.size();
    }

    int back(int image) {
        if (!to(image, 1)) return -1;
        if (images[image] == null) return -2;
        mounts = new ArrayList<>(images[image].mounts);
        lendings = new ArrayList<>(images[image].lendings);
        log = new ArrayList<>(images[image].log);
        undos = new ArrayList<>(images[image].undos);
        return lendings.size();
    }

    int count(int what) {
        if (!to(what, 7)) return -1;
        return new int[] {mounts.size(), speakers.size(), noises.size(), askers.size(),
            lendings.size(), log.size(), undos.size(), text.length()}[what];
    }

    long trace() { return traced; }
}
