import java.util.ArrayList;
import java.util.List;
import java.util.TreeSet;
import java.util.function.Supplier;

/**
 * Each refused call in several states: its answer, and that nothing is changed by it. For the latter an object is
 * asked and a twin of it, made by the same calls, is not; what can be seen of both afterwards must be alike.
 */
public final class RefusalsTest {
    private static final int BAD = -1, STATE = -2, FULL = -3, NO = -1000000;
    private static final int MIN = Integer.MIN_VALUE, MAX = Integer.MAX_VALUE;
    private static final Checks c = new Checks();

    private interface Call {
        long on(SkyListeners x);
    }

    private interface Look {
        List<Long> at(SkyListeners x);
    }

    /** A state, how it is come by, and how much of each there is in it. */
    private record Scene(String name, int dishes, int askers, int lendings, Supplier<SkyListeners> made) {}

    // What can be seen, in parts, since some looks change what they look at and no object is asked more than 512 times.
    private static final List<Look> LOOKS = List.of(RefusalsTest::valleySeen, RefusalsTest::allThought,
        RefusalsTest::allUndone, x -> imageSeen(x, 0), x -> imageSeen(x, 1), RefusalsTest::textSeen);

    private static final List<Scene> SCENES = List.of(
        new Scene("a new object", 0, 0, 0, SkyListeners::new),
        new Scene("no dish, no asker", 0, 0, 0, RefusalsTest::bare),
        new Scene("in the midst", 2, 3, 3, RefusalsTest::midst),
        new Scene("all full", 5, 5, 12, RefusalsTest::full),
        new Scene("read anew", 1, 1, 0, RefusalsTest::readAnew));

    private static Scene scene;
    private static List<List<Long>> due;

    public static void main(String[] args) {
        scenesAreWhatTheyAre();
        for (Scene one : SCENES) {
            enter(one);
            typeIsBad();
            valleyIsFaulty();
            dishAndHourAreBad();
            askerAndLentAreBad();
            turnIsBad();
            lendIsBad();
            hoursAreBad();
            heardIsBad();
            noteIsBad();
            mustIsBad();
            markIsBad();
            whatOrImageIsBad();
            questionsChangeNothing();
        }
        textIsFull();
        turnIsThat();
        nothingToUndo();
        lendingsAreFull();
        logIsFull();
        noImageWasKept();
        c.end();
    }

    // ---- the states

    private static SkyListeners bare() {
        SkyListeners x = Checks.told("speaker 7 9 0 23;noise 2 12 11;");
        x.mark(5, 9);
        x.keep(0);
        Checks.type(x, "dish 5");
        return x;
    }

    private static SkyListeners midst() {
        SkyListeners x = Checks.told("dish 3;dish 0;speaker 3 1 0 7;speaker 2 4 8 23;noise 9 5 2;asker 3 8;asker 0 2;asker 3 5;");
        x.lend(0, 0, 0);
        x.turn(1, 6);
        x.heard(5, 0, 4, 0);
        x.keep(0);
        x.lend(1, 9, 2);
        x.turn(0, 7);
        x.lend(0, 0, 1);
        x.heard(1, 1, 4, 1);
        x.heard(7, 0, 4, 1);
        x.mark(4, 4);
        Checks.type(x, "dish 6;asker 3");
        return x;
    }

    private static final String FULL_TEXT = "dish 0;dish 1;dish 2;dish 5;dish 7;"
        + "speaker 0 1 0 0;speaker 1 2 2 9;speaker 2 3 4 9;speaker 5 4 8 9;speaker 7 5 0 9;"
        + "noise 6 1 0;noise 7 5 4;noise 8 7 6;asker 0 1;asker 1 2;asker 2 9;asker 5 9;asker 0 1;";

    private static SkyListeners full() {
        SkyListeners x = Checks.told(FULL_TEXT);
        x.keep(1);
        for (int i = 0; i < 12; i++) {
            x.lend(i % 5, i * 2, i % 4);
        }
        for (int i = 0; i < 10; i++) {
            x.heard(i * 2, i % 5, i % 3, i % 2);
        }
        for (int i = 0; i < 4; i++) {
            x.turn(i, i + 4);
        }
        x.keep(0);
        x.turn(4, 0);
        x.mark(3, 5);
        Checks.type(x, "dish 4;asker 2 2;" + " ".repeat(223) + "asker 7 1;");
        return x;
    }

    private static SkyListeners readAnew() {
        SkyListeners x = full();
        x.clear();
        Checks.type(x, "dish 4;asker 4 9;speaker 4 0 0 0;");
        x.valley();
        return x;
    }

    private static void scenesAreWhatTheyAre() {
        int[][] counts = {{0, 0, 0, 0, 0, 0, 0, 0}, {0, 1, 1, 0, 0, 0, 0, 6}, {2, 2, 1, 3, 3, 3, 5, 14},
            {5, 5, 3, 5, 12, 10, 10, 250}, {1, 1, 0, 1, 0, 0, 0, 0}};
        for (int i = 0; i < SCENES.size(); i++) {
            SkyListeners x = SCENES.get(i).made.get();
            for (int what = 0; what < 8; what++) {
                c.due(SCENES.get(i).name + ": count " + what, x.count(what), counts[i][what]);
            }
        }
    }

    // ---- what can be seen of an object

    private static void countsSeen(SkyListeners x, List<Long> seen) {
        for (int what = 0; what < 8; what++) {
            seen.add((long) x.count(what));
        }
        seen.add(x.trace());
    }

    private static void lendingsSeen(SkyListeners x, List<Long> seen) {
        for (int i = 0; i < 12; i++) {
            for (int what = 0; what < 3; what++) {
                seen.add((long) x.lent(i, what));
            }
        }
    }

    private static List<Long> valleySeen(SkyListeners x) {
        List<Long> seen = new ArrayList<>();
        countsSeen(x, seen);
        lendingsSeen(x, seen);
        seen.add((long) x.twice(0));
        seen.add((long) x.twice(1));
        for (int i = 0; i < 5; i++) {
            seen.add((long) x.asker(i, 0));
            seen.add((long) x.asker(i, 1));
            for (int h = 0; h < 24; h++) {
                seen.add((long) x.looks(i, h));
                seen.add((long) x.hears(i, h));
            }
        }
        return seen;
    }

    private static List<Long> allThought(SkyListeners x) {
        List<Long> seen = new ArrayList<>();
        for (int note = 0; note < 10; note++) {
            seen.add((long) x.sky(note));
            seen.add((long) x.could(note));
            for (int what = 0; what < 3; what++) {
                seen.add((long) x.ours(note, what));
            }
            for (int d = 0; d < 5; d++) {
                seen.add((long) x.must(note, d, note));
                seen.add((long) x.must(note, d, 23 - note));
            }
        }
        for (int a = 0; a < 24; a += 5) {
            for (int what = 0; what < 2; what++) {
                seen.add((long) x.best(a, Math.min(a + 6, 23), what));
                seen.add((long) x.chance(a, Math.min(a + 3, 23), what));
                seen.add((long) x.apart(a, Math.min(a + 2, 23), what));
            }
            for (int d = 0; d < 5; d++) {
                seen.add((long) x.second(d, a));
            }
        }
        return seen;
    }

    private static List<Long> allUndone(SkyListeners x) {
        List<Long> seen = new ArrayList<>();
        for (int i = 0; i < 12; i++) {
            seen.add((long) x.undo());
            seen.add((long) x.count(4));
            seen.add((long) x.count(6));
            for (int d = 0; d < 5; d++) {
                seen.add((long) x.looks(d, 0));
            }
        }
        lendingsSeen(x, seen);
        return seen;
    }

    private static List<Long> imageSeen(SkyListeners x, int image) {
        List<Long> seen = new ArrayList<>();
        seen.add((long) x.back(image));
        countsSeen(x, seen);
        lendingsSeen(x, seen);
        for (int note = 0; note < 10; note++) {
            seen.add((long) x.sky(note));
            seen.add((long) x.could(note));
            seen.add((long) x.ours(note, 0));
        }
        seen.addAll(allUndone(x));
        return seen;
    }

    // the end completes the text where it was left open, so that every byte of it counts
    private static List<Long> textSeen(SkyListeners x) {
        List<Long> seen = new ArrayList<>();
        seen.add((long) x.count(7));
        Checks.type(x, " 4;");
        seen.add((long) x.valley());
        seen.add((long) x.clear());
        seen.addAll(valleySeen(x));
        return seen;
    }

    // ---- asking one twin of two

    private static void enter(Scene one) {
        scene = one;
        due = new ArrayList<>();
        for (Look look : LOOKS) {
            due.add(look.at(one.made.get()));
        }
    }

    private static void refused(String what, Call call, long answer) {
        String told = scene.name + ": " + what;
        for (int i = 0; i < LOOKS.size(); i++) {
            SkyListeners x = scene.made.get();
            c.due(told, call.on(x), answer);
            c.holds(told + " changes nothing (look " + i + ")", LOOKS.get(i).at(x).equals(due.get(i)));
        }
    }

    /** Numbers that are not within the bounds, some of which would be if their highest or lowest bits were lost. */
    private static TreeSet<Integer> beyond(int least, int most) {
        TreeSet<Integer> wrong = new TreeSet<>(List.of(MIN, MAX, -1, -9, least - 1, most + 1, most + 2, most + 8));
        for (int in = least; in <= most; in += Math.max(1, most - least)) {
            wrong.addAll(List.of(in + 256, in - 256, in + 65536, in ^ MIN, ~in));
        }
        wrong.removeIf(number -> number >= least && number <= most);
        return wrong;
    }

    private static int last(int many) {
        return Math.max(many - 1, 0);
    }

    // ---- BAD

    private static void typeIsBad() {
        for (int n : beyond(1, 8)) {
            refused("type n " + n, x -> x.type(0x6469736820313b20L, n), BAD);
        }
    }

    // the look at the text completes those that end too early, so that they must be there to the last byte
    private static void valleyIsFaulty() {
        Scene plain = scene;
        String[] texts = {"asker 1 1;dish", "dish 2;asker 2", "dish 8;", "asker 2 3;dish 1;dishes 1;", "DISH 1;", ";"};
        int[] faults = {14, 14, 5, 17, 0, 0};
        for (int i = 0; i < texts.length; i++) {
            String text = texts[i];
            enter(new Scene(plain.name + ", told '" + text + "'", plain.dishes, plain.askers, plain.lendings, () -> {
                SkyListeners x = plain.made.get();
                x.clear();
                Checks.type(x, text);
                return x;
            }));
            refused("valley", x -> x.valley(), -10 - faults[i]);
        }
        enter(plain);
    }

    private static void dishAndHourAreBad() {
        for (int d : beyond(0, scene.dishes - 1)) {
            for (int h : new int[] {0, 23, 24}) {
                refused("looks " + d + " " + h, x -> x.looks(d, h), BAD);
                refused("hears " + d + " " + h, x -> x.hears(d, h), BAD);
                refused("second " + d + " " + h, x -> x.second(d, h), BAD);
            }
        }
        for (int h : beyond(0, 23)) {
            int d = last(scene.dishes);
            refused("looks " + d + " " + h, x -> x.looks(d, h), BAD);
            refused("hears " + d + " " + h, x -> x.hears(d, h), BAD);
            refused("second " + d + " " + h, x -> x.second(d, h), BAD);
        }
    }

    private static void askerAndLentAreBad() {
        for (int a : beyond(0, scene.askers - 1)) {
            refused("asker " + a, x -> x.asker(a, 0), BAD);
            refused("asker " + a + " sure", x -> x.asker(a, 1), BAD);
        }
        for (int i : beyond(0, scene.lendings - 1)) {
            refused("lent " + i, x -> x.lent(i, 0), BAD);
            refused("lent " + i + " asker", x -> x.lent(i, 2), BAD);
        }
        for (int what : beyond(0, 1)) {
            refused("asker what " + what, x -> x.asker(last(scene.askers), what), BAD);
        }
        for (int what : beyond(0, 2)) {
            refused("lent what " + what, x -> x.lent(last(scene.lendings), what), BAD);
        }
    }

    private static void turnIsBad() {
        for (int d : beyond(0, scene.dishes - 1)) {
            refused("turn " + d, x -> x.turn(d, 0), BAD);
            refused("turn " + d + " 7", x -> x.turn(d, 7), BAD);
        }
        for (int mount : beyond(0, 7)) {
            refused("turn to " + mount, x -> x.turn(0, mount), BAD);
            refused("turn the last to " + mount, x -> x.turn(last(scene.dishes), mount), BAD);
        }
    }

    private static void lendIsBad() {
        for (int d : beyond(0, scene.dishes - 1)) {
            refused("lend dish " + d, x -> x.lend(d, 0, 0), BAD);
        }
        for (int h : beyond(0, 23)) {
            refused("lend hour " + h, x -> x.lend(last(scene.dishes), h, last(scene.askers)), BAD);
        }
        for (int a : beyond(0, scene.askers - 1)) {
            refused("lend asker " + a, x -> x.lend(0, 23, a), BAD);
        }
    }

    private static void hoursAreBad() {
        for (int what = 0; what < 2; what++) {
            for (int wrong : beyond(0, 23)) {
                hoursAreBad(wrong, 23, what);
                hoursAreBad(0, wrong, what);
                hoursAreBad(wrong, wrong, what);
            }
            hoursAreBad(1, 0, what);
            hoursAreBad(23, 22, what);
            hoursAreBad(23, 0, what);
            SkyListeners x = scene.made.get();
            for (int h = 1; h < 24; h++) {
                c.due(scene.name + ": best " + h + " till one less", x.best(h, h - 1, what), BAD);
                c.due(scene.name + ": chance " + h + " till one less", x.chance(h, h - 1, what), BAD);
                c.due(scene.name + ": apart " + h + " till one less", x.apart(h, h - 1, what), BAD);
            }
        }
        for (int what : beyond(0, 1)) {
            hoursAreBad(0, 23, what);
        }
    }

    private static void hoursAreBad(int a, int b, int what) {
        String hours = a + " " + b + " " + what;
        refused("best " + hours, x -> x.best(a, b, what), BAD);
        refused("chance " + hours, x -> x.chance(a, b, what), BAD);
        refused("apart " + hours, x -> x.apart(a, b, what), BAD);
    }

    private static void heardIsBad() {
        int d = last(scene.dishes);
        for (int h : beyond(0, 23)) {
            refused("heard hour " + h, x -> x.heard(h, d, 9, 1), BAD);
        }
        for (int wrong : beyond(0, scene.dishes - 1)) {
            refused("heard dish " + wrong, x -> x.heard(23, wrong, 9, 0), BAD);
        }
        for (int note : beyond(0, 9)) {
            refused("heard note " + note, x -> x.heard(23, d, note, 1), BAD);
        }
        for (int is : beyond(0, 1)) {
            refused("heard is " + is, x -> x.heard(23, d, 9, is), BAD);
        }
    }

    private static void noteIsBad() {
        for (int note : beyond(0, 9)) {
            refused("sky " + note, x -> x.sky(note), BAD);
            refused("could " + note, x -> x.could(note), BAD);
            for (int what = 0; what < 4; what++) {
                int one = what;
                refused("ours " + note + " " + one, x -> x.ours(note, one), BAD);
            }
        }
        for (int what : beyond(0, 2)) {
            refused("ours what " + what, x -> x.ours(9, what), BAD);
            refused("ours what " + what + " of a note that is logged", x -> x.ours(4, what), BAD);
        }
    }

    private static void mustIsBad() {
        int d = last(scene.dishes);
        for (int note : beyond(0, 9)) {
            refused("must note " + note, x -> x.must(note, d, 23), BAD);
        }
        for (int wrong : beyond(0, scene.dishes - 1)) {
            refused("must dish " + wrong, x -> x.must(9, wrong, 23), BAD);
            refused("must dish " + wrong + " of a note that none could be", x -> x.must(4, wrong, 0), BAD);
        }
        for (int h : beyond(0, 23)) {
            refused("must hour " + h, x -> x.must(9, d, h), BAD);
            refused("must hour " + h + " of a note that none could be", x -> x.must(4, d, h), BAD);
        }
    }

    private static void markIsBad() {
        for (int kind : beyond(0, 5)) {
            refused("mark kind " + kind, x -> x.mark(kind, 9), NO);
        }
        for (int note : beyond(0, 9)) {
            for (int kind = 0; kind < 7; kind++) {
                int one = kind;
                refused("mark " + one + " of note " + note, x -> x.mark(one, note), NO);
            }
        }
    }

    private static void whatOrImageIsBad() {
        for (int wrong : beyond(0, 1)) {
            refused("twice " + wrong, x -> x.twice(wrong), BAD);
            refused("keep " + wrong, x -> x.keep(wrong), BAD);
            refused("back " + wrong, x -> x.back(wrong), BAD);
        }
        for (int what : beyond(0, 7)) {
            refused("count " + what, x -> x.count(what), BAD);
        }
    }

    private static void questionsChangeNothing() {
        refused("questions", x -> {
            for (int i = 0; i < 5; i++) {
                for (int h = 0; h < 24; h += 23) {
                    x.looks(i, h);
                    x.hears(i, h);
                    x.second(i, h);
                    x.must(4, i, h);
                    x.asker(i, h / 23);
                    x.lent(i, h / 23);
                }
                x.sky(i);
                x.could(i);
                x.ours(i, i % 3);
                x.best(i, i + 7, i % 2);
                x.chance(i, i + 7, i % 2);
                x.apart(i, i + 7, i % 2);
                x.twice(i % 2);
                x.count(i);
            }
            return 0;
        }, 0);
    }

    // ---- STATE and FULL

    private static SkyListeners withText(int length) {
        SkyListeners x = Checks.told("dish 3;");
        Checks.type(x, "dish 1;dish 6;" + " ".repeat(length - 14));
        return x;
    }

    private static void textIsFull() {
        for (int length = 240; length <= 250; length++) {
            int had = length;
            enter(new Scene("a text of " + had, 1, 0, 0, () -> withText(had)));
            for (int n = 1; n <= 8; n++) {
                int more = n;
                if (had + n > 250) {
                    refused("type " + n, x -> x.type(0x6469736820313b20L, more), FULL);
                } else {
                    SkyListeners x = withText(had);
                    c.due("type " + n + " to a text of " + had, x.type(0x2020202020202020L, n), had + n);
                    c.due("valley of both", x.valley(), 2);
                }
            }
            refused("BAD ahead of FULL, 0", x -> x.type(32, 0), BAD);
            refused("BAD ahead of FULL, 9", x -> x.type(32, 9), BAD);
            refused("BAD ahead of FULL, far", x -> x.type(32, MAX), BAD);
        }
    }

    private static void turnIsThat() {
        for (Scene one : SCENES) {
            enter(one);
            for (int d = 0; d < one.dishes; d++) {
                int same = d;
                int mount = one.made.get().looks(d, 0);
                refused("turn " + d + " to its mount", x -> x.turn(same, mount), STATE);
            }
        }
    }

    private static void nothingToUndo() {
        for (Scene one : SCENES) {
            Scene undone = new Scene(one.name + ", all undone", one.dishes, one.askers, one.lendings, () -> {
                SkyListeners x = one.made.get();
                for (int i = 0; i < 10; i++) {
                    x.undo();
                }
                return x;
            });
            enter(undone);
            refused("undo", x -> x.undo(), STATE);
        }
    }

    private static void lendingsAreFull() {
        enter(SCENES.get(3));
        for (int i = 0; i < 12; i++) {
            int h = i * 2;
            refused("lend 13th", x -> x.lend(4, h, 4), FULL);
        }
        enter(new Scene("an image of twelve is back", 5, 5, 12, () -> {
            SkyListeners x = full();
            for (int i = 0; i < 10; i++) {
                x.undo();
            }
            x.back(0);
            return x;
        }));
        refused("lend 13th", x -> x.lend(0, 0, 0), FULL);
        refused("BAD ahead of FULL", x -> x.lend(0, 24, 0), BAD);
    }

    private static void logIsFull() {
        enter(SCENES.get(3));
        for (int note = 0; note < 10; note++) {
            int one = note;
            refused("heard 11th", x -> x.heard(23, 4, one, 1), FULL);
            refused("not heard 11th", x -> x.heard(0, 0, one, 0), FULL);
        }
        enter(new Scene("an image of ten is back", 5, 5, 12, () -> {
            SkyListeners x = full();
            x.forget();
            x.heard(0, 0, 0, 0);
            x.back(0);
            return x;
        }));
        refused("heard 11th", x -> x.heard(0, 0, 0, 0), FULL);
        refused("BAD ahead of FULL", x -> x.heard(0, 5, 0, 0), BAD);
    }

    private static void noImageWasKept() {
        int[][] kept = {{}, {0}, {0}, {0, 1}, {}};
        for (int i = 0; i < SCENES.size(); i++) {
            enter(SCENES.get(i));
            for (int image = 0; image < 2; image++) {
                int one = image;
                if (java.util.Arrays.stream(kept[i]).noneMatch(k -> k == one)) {
                    refused("back " + image, x -> x.back(one), STATE);
                } else {
                    c.holds(scene.name + ": back " + image, scene.made.get().back(image) >= 0);
                }
            }
        }
    }
}
