/** Each promise by hand: ordinary calls, the edges that the document names, wrong numbers, which refusal is first. */
public final class PromisesTest {
    private static final int BAD = -1, STATE = -2, FULL = -3, NONE = -9, NO = -1000000;
    private static final int MAY = -5;
    private static final Checks c = new Checks();
    private static final int[] WRONG = {-1, Integer.MIN_VALUE, Integer.MAX_VALUE};

    public static void main(String[] args) {
        newObject();
        type();
        clear();
        valley();
        faults();
        looks();
        hears();
        asker();
        turn();
        lend();
        lent();
        twice();
        undo();
        best();
        chance();
        apart();
        heard();
        forget();
        sky();
        ours();
        could();
        must();
        second();
        mark();
        keepAndBack();
        readAnew();
        count();
        c.end();
    }

    private static void newObject() {
        SkyListeners x = new SkyListeners();
        for (int what = 0; what < 8; what++) {
            c.due("1 count " + what, x.count(what), 0);
        }
        c.due("1 trace", x.trace(), 0);
        c.due("1 undo", x.undo(), STATE);
        c.due("1 back", x.back(1), STATE);
        c.due("1 no dish", x.looks(0, 0), BAD);
        c.due("1 no asker", x.asker(0, 0), BAD);
        c.due("1 clear", x.clear(), 0);
        c.due("1 forget", x.forget(), 0);
    }

    private static void type() {
        SkyListeners x = new SkyListeners();
        for (int n : new int[] {0, 9, -1, Integer.MIN_VALUE, Integer.MAX_VALUE}) {
            c.due("2 type n " + n, x.type(0, n), BAD);
        }
        // the highest of the lowest bytes first; what is above them is not taken
        c.due("2 type 5", x.type(0x7777_7764_6973_6820L, 5), 5);
        c.due("2 type 2", x.type(0xFFFF_FFFF_FFFF_333BL, 2), 7);
        c.due("2 typed", x.valley(), 1);
        c.due("2 typed looks", x.looks(0, 0), 3);
        for (int i = 1; i <= 31; i++) {
            c.due("2 type 8", x.type(0x2020202020202020L, 8), 8 * i);
        }
        c.due("2 type 248 and 3", x.type(0x202020, 3), FULL);
        c.due("2 type 248 and 9", x.type(0x202020, 9), BAD);
        c.due("2 full changes nothing", x.count(7), 248);
        c.due("2 type 248 and 2", x.type(0x2020, 2), 250);
        c.due("2 type 250 and 1", x.type(32, 1), FULL);
        c.due("2 all blanks", x.valley(), 0);
        c.due("2 highest byte", x.type(-1L, 1), 1);
        c.due("2 highest byte begins none", x.valley(), -10);
    }

    private static void clear() {
        SkyListeners x = Checks.told("dish 1;");
        Checks.type(x, "nonsense");
        c.due("3 clear", x.clear(), 8);
        c.due("3 clear again", x.clear(), 0);
        c.due("3 count", x.count(7), 0);
        c.due("3 dishes stay", x.count(0), 1);
        Checks.type(x, "dish 2;");
        c.due("3 text after clear", x.valley(), 1);
        c.due("3 text after clear told", x.looks(0, 0), 2);
    }

    private static void valley() {
        SkyListeners x = new SkyListeners();
        Checks.type(x, "  dish0 ;dish  7;speaker 7 9 23 23;noise 9 12 11;asker7 9;asker 0 1;  ");
        c.due("4 items", x.valley(), 6);
        c.due("4 text is empty", x.count(7), 0);
        c.due("4 dishes", x.count(0), 2);
        c.due("4 speakers", x.count(1), 1);
        c.due("4 noises", x.count(2), 1);
        c.due("4 askers", x.count(3), 2);
        c.due("4 first dish", x.looks(0, 0), 0);
        c.due("4 second dish", x.looks(1, 0), 7);
        c.due("4 second asker", x.asker(1, 1), 1);
        Checks.type(x, "dish 3; dish");
        c.due("4 fault", x.valley(), -22);
        c.due("4 fault: text stays", x.count(7), 12);
        c.due("4 fault: dishes stay", x.count(0), 2);
        c.due("4 fault: mounts stay", x.looks(0, 0), 0);
        c.due("4 fault again", x.valley(), -22);
        Checks.type(x, " 4;");
        c.due("4 fault mended", x.valley(), 2);
        c.due("4 what is not told", x.count(3), 0);
        c.due("4 most of each", Checks.told("dish 0;dish 1;dish 2;dish 3;dish 4;noise 0 1 0;noise 0 1 0;noise 0 1 0;"
                + "asker 0 1;asker 0 1;asker 0 1;asker 0 1;asker 0 1;").count(3), 5);
        c.due("4 most speakers", Checks.told("speaker 0 0 0 0;speaker 0 0 0 0;speaker 0 0 0 0;"
                + "speaker 0 0 0 0;speaker 0 0 0 0;").count(1), 5);
        x.clear();
        c.due("4 nothing told", x.valley(), 0);
        c.due("4 nothing told: no dish", x.count(0), 0);
    }

    private static void fault(String text, int place) {
        SkyListeners x = Checks.told("dish 5;");
        Checks.type(x, text);
        c.due("4 fault of '" + text + "'", x.valley(), -10 - place);
        c.due("4 nothing changed by '" + text + "'", x.looks(0, 0), 5);
        c.due("4 text stayed '" + text + "'", x.count(7), text.length());
    }

    private static void faults() {
        fault("dish", 4);
        fault("dish  ", 6);
        fault("dish 3", 6);
        fault("dish 3 ", 7);
        fault("dish ;", 5);
        fault("dish 8;", 5);
        fault("dish 00;", 5);
        fault("dish 01;", 5);
        fault("dish 100;", 5);
        fault("dish 18446744073709551617;", 5);
        fault("dish 1 2;", 7);
        fault("dish 1;;", 7);
        fault("dish 1; 4;", 8);
        fault("dish dish;", 5);
        fault("dish 1dish 1;", 6);
        fault("dish -1;", 5);
        fault("dish 1;dish\t1;", 11);
        fault("Dish 1;", 0);
        fault(" disH 1;", 1);
        fault("dis", 0);
        fault("dishes 1;", 0);
        fault("d ish 1;", 0);
        fault("dishz 1;", 0);
        fault("fish 1;", 0);
        fault(";", 0);
        fault("7", 0);
        fault("dish 1;x", 7);
        fault("speaker 8 0 0 0;", 8);
        fault("speaker 0 10 0 0;", 10);
        fault("speaker 0 0 24 24;", 12);
        fault("speaker 0 0 0 24;", 14);
        fault("speaker 0 0 5 4;", 14);
        fault("speaker 0 0 5;", 13);
        fault("speaker 0 0 5 5 5;", 16);
        fault("noise 10 1 0;", 6);
        fault("noise 0 0 0;", 8);
        fault("noise 0 13 0;", 8);
        fault("noise 0 1 1;", 10);
        fault("noise 0 12 12;", 11);
        fault("asker 8 1;", 6);
        fault("asker 0 0;", 8);
        fault("asker 0 10;", 8);
        fault("dish 0;dish 0;dish 0;dish 0;dish 0; dish", 36);
        fault("dish 0;dish 0;dish 0;dish 0;dish 0;dish 9;", 35);
        fault("noise 0 1 0;noise 0 1 0;noise 0 1 0;noise 0 1 0;", 36);
        fault("asker 0 1;asker 0 1;asker 0 1;asker 0 1;asker 0 1;asker 0 1;", 50);
        fault("speaker 0 0 0 0;speaker 0 0 0 0;speaker 0 0 0 0;speaker 0 0 0 0;speaker 0 0 0 0;speaker 0 0 0 0;", 80);
        String hundred = "9".repeat(200);
        fault("dish " + hundred + ";", 5);
    }

    private static void looks() {
        SkyListeners x = Checks.told("dish 0;dish 3;");
        c.due("5 at 0", x.looks(1, 0), 3);
        c.due("5 at 3", x.looks(1, 3), 0);
        c.due("5 at 4", x.looks(1, 4), 7);
        c.due("5 at 8", x.looks(1, 8), 3);
        c.due("5 at 23", x.looks(1, 23), 4);
        c.due("5 mount 0 at 1", x.looks(0, 1), 7);
        c.due("5 no such dish", x.looks(2, 0), BAD);
        c.due("5 no such hour", x.looks(0, 24), BAD);
        for (int wrong : WRONG) {
            c.due("5 dish " + wrong, x.looks(wrong, 0), BAD);
            c.due("5 hour " + wrong, x.looks(0, wrong), BAD);
        }
    }

    private static void hears() {
        SkyListeners x = Checks.told("dish 3;dish 0;speaker 3 1 0 7;speaker 3 2 8 8;speaker 3 1 0 0;noise 9 5 2;noise 1 3 0;");
        c.due("6 speaker and noise of one note", x.hears(0, 0), 1 << 1);
        c.due("6 elsewhere only noise", x.hears(1, 0), 1 << 1);
        c.due("6 nobody", x.hears(1, 1), 0);
        c.due("6 noise", x.hears(0, 2), 1 << 9);
        c.due("6 last hour", x.hears(0, 8), 1 << 2);
        c.due("6 other dish looks later", x.hears(1, 5), 1 << 1);
        c.due("6 at 16 nobody speaks", x.hears(0, 16), 0);
        c.due("6 no such dish", x.hears(2, 0), BAD);
        c.due("6 no such hour", x.hears(0, 24), BAD);
        for (int wrong : WRONG) {
            c.due("6 dish " + wrong, x.hears(wrong, 0), BAD);
            c.due("6 hour " + wrong, x.hears(0, wrong), BAD);
        }
        SkyListeners many = Checks.told("dish 0;speaker 0 1 0 9;speaker 0 2 0 9;noise 3 4 0;noise 4 8 0;");
        c.due("6 two speakers, two noises", many.hears(0, 8), 1 << 1 | 1 << 2 | 1 << 3 | 1 << 4);
        x.turn(1, 3);
        c.due("6 as mounted now", x.hears(1, 8), 1 << 2);
    }

    private static void asker() {
        SkyListeners x = Checks.told("asker 6 9;asker 2 1;");
        c.due("7 place", x.asker(0, 0), 6);
        c.due("7 sure", x.asker(0, 1), 9);
        c.due("7 second place", x.asker(1, 0), 2);
        c.due("7 what", x.asker(0, 2), BAD);
        c.due("7 no such asker", x.asker(2, 0), BAD);
        for (int wrong : WRONG) {
            c.due("7 asker " + wrong, x.asker(wrong, 0), BAD);
            c.due("7 what " + wrong, x.asker(0, wrong), BAD);
        }
    }

    private static void turn() {
        SkyListeners x = Checks.told("dish 4;");
        c.due("8 it is that", x.turn(0, 4), STATE);
        c.due("8 refused: nothing to undo", x.count(6), 0);
        c.due("8 turn", x.turn(0, 7), 4);
        c.due("8 all hours", x.looks(0, 9), 6);
        c.due("8 turn back", x.turn(0, 0), 7);
        c.due("8 may be undone", x.count(6), 2);
        c.due("8 mount 8", x.turn(0, 8), BAD);
        c.due("8 no such dish", x.turn(1, 0), BAD);
        for (int wrong : WRONG) {
            c.due("8 dish " + wrong, x.turn(wrong, 0), BAD);
            c.due("8 mount " + wrong, x.turn(0, wrong), BAD);
        }
        c.due("8 nothing changed", x.looks(0, 0), 0);
    }

    private static void lend() {
        SkyListeners x = Checks.told("dish 4;asker 1 1;");
        c.due("9 no such dish", x.lend(1, 0, 0), BAD);
        c.due("9 no such hour", x.lend(0, 24, 0), BAD);
        c.due("9 no such asker", x.lend(0, 0, 1), BAD);
        for (int wrong : WRONG) {
            c.due("9 dish " + wrong, x.lend(wrong, 0, 0), BAD);
            c.due("9 hour " + wrong, x.lend(0, wrong, 0), BAD);
            c.due("9 asker " + wrong, x.lend(0, 0, wrong), BAD);
        }
        for (int i = 1; i <= 12; i++) {
            c.due("9 lend", x.lend(0, i, 0), i);
        }
        c.due("9 thirteenth", x.lend(0, 0, 0), FULL);
        c.due("9 bad ahead of full", x.lend(0, 24, 0), BAD);
        c.due("9 nothing changed", x.count(4), 12);
    }

    private static void lent() {
        SkyListeners x = Checks.told("dish 4;dish 5;asker 1 1;asker 2 2;asker 3 3;");
        c.due("10 none", x.lent(0, 0), BAD);
        x.lend(1, 23, 2);
        x.lend(0, 7, 1);
        c.due("10 dish", x.lent(0, 0), 1);
        c.due("10 hour", x.lent(0, 1), 23);
        c.due("10 asker", x.lent(0, 2), 2);
        c.due("10 second hour", x.lent(1, 1), 7);
        c.due("10 what", x.lent(0, 3), BAD);
        c.due("10 no such lending", x.lent(2, 0), BAD);
        for (int wrong : WRONG) {
            c.due("10 lending " + wrong, x.lent(wrong, 0), BAD);
            c.due("10 what " + wrong, x.lent(0, wrong), BAD);
        }
        x.undo();
        c.due("10 taken back", x.lent(1, 0), BAD);
    }

    private static void twice() {
        SkyListeners x = Checks.told("dish 4;dish 4;asker 4 1;asker 3 2;");
        c.due("11 none", x.twice(0), NONE);
        c.due("11 none in vain", x.twice(1), 0);
        x.lend(0, 0, 0);
        x.lend(1, 0, 0);
        x.lend(0, 8, 0);
        c.due("11 other dish, other hour", x.twice(0), NONE);
        x.lend(0, 1, 0);
        c.due("11 in vain", x.twice(1), 1);
        x.lend(1, 0, 1);
        x.lend(0, 0, 0);
        c.due("11 the first that has one ahead", x.twice(0), 4);
        c.due("11 in vain, two", x.twice(1), 2);
        x.turn(0, 3);
        c.due("11 in vain as mounted now", x.twice(1), 5);
        SkyListeners soon = Checks.told("dish 4;asker 4 1;");
        soon.lend(0, 0, 0);
        soon.lend(0, 0, 0);
        c.due("11 the second of two", soon.twice(0), 1);
        c.due("11 what 2", x.twice(2), BAD);
        for (int wrong : WRONG) {
            c.due("11 what " + wrong, x.twice(wrong), BAD);
        }
    }

    private static void undo() {
        SkyListeners x = Checks.told("dish 4;dish 5;asker 1 1;");
        x.turn(0, 6);
        x.lend(0, 0, 0);
        x.turn(0, 7);
        x.turn(1, 7);
        x.heard(0, 0, 0, 1);
        c.due("12 undo a turn", x.undo(), 3);
        c.due("12 dish 1 is back", x.looks(1, 0), 5);
        c.due("12 dish 0 not yet", x.looks(0, 0), 7);
        c.due("12 undo a turn of the same dish", x.undo(), 2);
        c.due("12 one turn back", x.looks(0, 0), 6);
        c.due("12 undo a lending", x.undo(), 1);
        c.due("12 no lending", x.count(4), 0);
        c.due("12 undo the first", x.undo(), 0);
        c.due("12 as told", x.looks(0, 0), 4);
        c.due("12 none", x.undo(), STATE);
        c.due("12 the log stays", x.count(5), 1);
        for (int i = 0; i < 11; i++) {
            x.turn(0, i * 3 % 8);
        }
        c.due("12 ten are known", x.count(6), 10);
        for (int left = 9; left >= 0; left--) {
            c.due("12 ten undone", x.undo(), left);
            c.due("12 one mount back", x.looks(0, 0), left * 3 % 8);
        }
        c.due("12 the oldest is lost", x.looks(0, 0), 0);
        c.due("12 none more", x.undo(), STATE);
    }

    private static void wrongHours(String promise, SkyListeners x, java.util.function.IntBinaryOperator hours) {
        c.due(promise + " b less than a", hours.applyAsInt(5, 4), BAD);
        c.due(promise + " b 24", hours.applyAsInt(0, 24), BAD);
        c.due(promise + " a 24", hours.applyAsInt(24, 24), BAD);
        for (int wrong : WRONG) {
            c.due(promise + " a " + wrong, hours.applyAsInt(wrong, 5), BAD);
            c.due(promise + " b " + wrong, hours.applyAsInt(5, wrong), BAD);
        }
    }

    private static void best() {
        SkyListeners x = Checks.told("dish 0;asker 0 3;asker 0 7;asker 7 2;asker 0 7;");
        c.due("13 one hour", x.best(0, 0, 0), 7);
        c.due("13 least bits", x.best(0, 0, 1), 2);
        c.due("13 two hours", x.best(0, 1, 0), 9);
        c.due("13 two hours' set", x.best(0, 1, 1), 6);
        c.due("13 none looks", x.best(2, 6, 0), 0);
        c.due("13 none looks: no set", x.best(2, 6, 1), 0);
        c.due("13 a place again", x.best(0, 8, 0), 16);
        c.due("13 a place again: set", x.best(0, 8, 1), 14);
        c.due("13 the whole day", x.best(0, 23, 0), 19);
        x.turn(0, 7);
        c.due("13 as mounted now", x.best(0, 0, 1), 4);
        c.due("13 what 2", x.best(0, 0, 2), BAD);
        c.due("13 what -1", x.best(0, 0, -1), BAD);
        wrongHours("13", x, (a, b) -> x.best(a, b, 0));
        SkyListeners first = Checks.told("dish 3;asker 3 4;asker 3 4;");
        c.due("13 the first of equals", first.best(0, 0, 1), 1);
        SkyListeners two = Checks.told("dish 3;dish 3;asker 3 4;asker 3 4;asker 3 4;");
        c.due("13 two dishes", two.best(0, 0, 0), 8);
        c.due("13 two dishes: least bits", two.best(0, 0, 1), 3);
    }

    private static void chance() {
        SkyListeners x = Checks.told("dish 0;asker 0 5;asker 7 2;asker 0 4;");
        c.due("14 upper", x.chance(0, 0, 0), 7);
        c.due("14 lower", x.chance(0, 0, 1), 10);
        c.due("14 both places: upper", x.chance(0, 1, 0), 19);
        c.due("14 both places: lower", x.chance(0, 1, 1), 25);
        c.due("14 a place twice counts once", x.chance(0, 23, 1), 25);
        c.due("14 nobody: upper", x.chance(2, 3, 0), 0);
        c.due("14 nobody: lower", x.chance(2, 3, 1), 1);
        x.turn(0, 7);
        c.due("14 as mounted now: upper", x.chance(0, 0, 0), 1);
        c.due("14 as mounted now: lower", x.chance(0, 0, 1), 5);
        SkyListeners two = Checks.told("dish 0;dish 4;asker 0 5;asker 4 5;");
        c.due("14 two dishes: upper", two.chance(0, 0, 0), 3);
        c.due("14 two dishes: lower", two.chance(0, 0, 1), 4);
        c.due("14 what 2", x.chance(0, 0, 2), BAD);
        c.due("14 what -1", x.chance(0, 0, -1), BAD);
        wrongHours("14", x, (a, b) -> x.chance(a, b, 1));
    }

    private static void apart() {
        SkyListeners x = Checks.told("dish 0;dish 1;dish 4;dish 4;");
        c.due("15 seven hours", x.apart(0, 6, 0), 1);
        c.due("15 seven hours: least bits", x.apart(0, 6, 1), 1);
        c.due("15 six hours", x.apart(0, 5, 1), 3);
        c.due("15 four hours", x.apart(0, 3, 0), 2);
        c.due("15 four hours: set", x.apart(0, 3, 1), 5);
        c.due("15 three hours", x.apart(0, 2, 0), 3);
        c.due("15 three hours: least bits", x.apart(0, 2, 1), 7);
        c.due("15 two hours", x.apart(0, 1, 0), NONE);
        c.due("15 two hours: no set", x.apart(0, 1, 1), NONE);
        x.turn(0, 5);
        x.turn(1, 5);
        c.due("15 as mounted now", x.apart(0, 2, 0), NONE);
        c.due("15 later hours count alike", x.apart(16, 22, 1), 1);
        c.due("15 six places", Checks.told("dish 6;").apart(0, 5, 0), NONE);
        c.due("15 seven places, not the first", Checks.told("dish 7;").apart(0, 6, 0), 1);
        c.due("15 what 2", x.apart(0, 6, 2), BAD);
        c.due("15 what -1", x.apart(0, 6, -1), BAD);
        wrongHours("15", x, (a, b) -> x.apart(a, b, 0));
        c.due("15 no dish", Checks.told("").apart(0, 23, 0), NONE);
    }

    private static void heard() {
        SkyListeners x = Checks.told("dish 0;");
        c.due("16 no such hour", x.heard(24, 0, 0, 0), BAD);
        c.due("16 no such dish", x.heard(0, 1, 0, 0), BAD);
        c.due("16 no such note", x.heard(0, 0, 10, 0), BAD);
        c.due("16 is 2", x.heard(0, 0, 0, 2), BAD);
        for (int wrong : WRONG) {
            c.due("16 hour " + wrong, x.heard(wrong, 0, 0, 0), BAD);
            c.due("16 dish " + wrong, x.heard(0, wrong, 0, 0), BAD);
            c.due("16 note " + wrong, x.heard(0, 0, wrong, 0), BAD);
            c.due("16 is " + wrong, x.heard(0, 0, 0, wrong), BAD);
        }
        for (int i = 1; i <= 10; i++) {
            c.due("16 heard", x.heard(23, 0, 9, 1), i);
        }
        c.due("16 eleventh", x.heard(0, 0, 0, 0), FULL);
        c.due("16 bad ahead of full", x.heard(0, 1, 0, 0), BAD);
        c.due("16 nothing to be undone", x.count(6), 0);
    }

    private static void forget() {
        SkyListeners x = Checks.told("dish 0;");
        x.heard(0, 0, 1, 1);
        x.heard(1, 0, 1, 0);
        c.due("17 forget", x.forget(), 2);
        c.due("17 forget again", x.forget(), 0);
        c.due("17 sky is open", x.sky(1), 255);
    }

    private static void sky() {
        SkyListeners x = Checks.told("dish 0;dish 5;");
        x.heard(1, 0, 4, 0);
        c.due("18 not at 7", x.sky(4), 127);
        x.heard(0, 0, 4, 0);
        c.due("18 nor at 0", x.sky(4), 126);
        x.heard(0, 1, 4, 1);
        c.due("18 just at 5", x.sky(4), 32);
        c.due("18 other note", x.sky(3), 255);
        x.turn(1, 4);
        c.due("18 as mounted now", x.sky(4), 16);
        x.heard(8, 1, 4, 0);
        c.due("18 none", x.sky(4), 0);
        c.due("18 note 10", x.sky(10), BAD);
        for (int wrong : WRONG) {
            c.due("18 note " + wrong, x.sky(wrong), BAD);
        }
    }

    private static void ours() {
        SkyListeners x = Checks.told("dish 0;");
        c.due("19 all laws", x.ours(2, 0), 78);
        c.due("19 all: first", x.ours(2, 1), 1);
        c.due("19 all: first since", x.ours(2, 2), 0);
        x.heard(0, 0, 2, 0);
        c.due("19 not at 0", x.ours(2, 0), 66);
        c.due("19 not at 0: each", x.ours(2, 1), 2);
        c.due("19 not at 0: since", x.ours(2, 2), 1);
        x.heard(23, 0, 2, 1);
        x.heard(11, 0, 2, 0);
        c.due("19 at 23, not at 11", x.ours(2, 0), 6);
        c.due("19 at 23, not at 11: each", x.ours(2, 1), 5);
        c.due("19 at 23, not at 11: since", x.ours(2, 2), 3);
        c.due("19 other note", x.ours(3, 0), 78);
        x.heard(23, 0, 2, 0);
        c.due("19 none", x.ours(2, 0), 0);
        c.due("19 none: each", x.ours(2, 1), NONE);
        c.due("19 none: since", x.ours(2, 2), NONE);
        c.due("19 what 3", x.ours(2, 3), BAD);
        c.due("19 note 10", x.ours(10, 0), BAD);
        for (int wrong : WRONG) {
            c.due("19 note " + wrong, x.ours(wrong, 0), BAD);
            c.due("19 what " + wrong, x.ours(2, wrong), BAD);
        }
        x.forget();
        x.heard(11, 0, 2, 1);
        x.heard(0, 0, 2, 0);
        x.heard(1, 0, 2, 0);
        x.heard(2, 0, 2, 0);
        x.heard(3, 0, 2, 0);
        x.heard(4, 0, 2, 0);
        x.heard(5, 0, 2, 0);
        x.heard(23, 0, 2, 1);
        c.due("19 the last law", x.ours(2, 0), 1);
        c.due("19 the last law: each", x.ours(2, 1), 12);
        c.due("19 the last law: since", x.ours(2, 2), 11);
    }

    private static void could() {
        SkyListeners x = Checks.told("dish 0;");
        c.due("20 all", x.could(5), 2400);
        x.heard(0, 0, 5, 1);
        c.due("20 from 0 at 0", x.could(5), 24);
        x.heard(16, 0, 5, 0);
        c.due("20 till 15", x.could(5), 16);
        x.heard(8, 0, 5, 1);
        c.due("20 at least till 8", x.could(5), 8);
        c.due("20 other note", x.could(4), 2400);
        x.heard(1, 0, 5, 1);
        c.due("20 from two places: none", x.could(5), 0);
        c.due("20 note 10", x.could(10), BAD);
        for (int wrong : WRONG) {
            c.due("20 note " + wrong, x.could(wrong), BAD);
        }
        x.forget();
        x.heard(3, 0, 5, 0);
        c.due("20 one hour of one place less", x.could(5), 2400 - 4 * 21);
    }

    private static void must() {
        SkyListeners x = Checks.told("dish 0;dish 4;");
        c.due("21 anything may", x.must(5, 1, 7), MAY);
        x.heard(8, 0, 5, 1);
        c.due("21 what was heard", x.must(5, 0, 8), 1);
        c.due("21 other place", x.must(5, 0, 7), 0);
        c.due("21 same place later", x.must(5, 0, 16), MAY);
        c.due("21 other dish, same place later", x.must(5, 1, 12), MAY);
        x.heard(16, 0, 5, 1);
        c.due("21 between two heard", x.must(5, 1, 12), 1);
        x.heard(0, 0, 5, 0);
        c.due("21 ahead of a silence", x.must(5, 0, 0), 0);
        c.due("21 between silence and heard", x.must(5, 1, 4), MAY);
        x.heard(9, 0, 5, 1);
        c.due("21 none could be", x.must(5, 0, 8), NONE);
        c.due("21 other note", x.must(6, 0, 8), MAY);
        c.due("21 note 10", x.must(10, 0, 0), BAD);
        c.due("21 no such dish", x.must(5, 2, 0), BAD);
        c.due("21 no such hour", x.must(5, 0, 24), BAD);
        for (int wrong : WRONG) {
            c.due("21 note " + wrong, x.must(wrong, 0, 0), BAD);
            c.due("21 dish " + wrong, x.must(5, wrong, 0), BAD);
            c.due("21 hour " + wrong, x.must(5, 0, wrong), BAD);
        }
    }

    private static void second() {
        SkyListeners x = Checks.told("dish 0;dish 0;dish 1;dish 7;");
        c.due("22 all others by the day's end", x.second(0, 0), 3);
        c.due("22 in that very hour", x.second(0, 23), 1);
        c.due("22 the last hours", x.second(3, 22), 2);
        c.due("22 itself is not counted", x.second(2, 23), 0);
        c.due("22 only later hours: the two looked there at 16", x.second(2, 17), 1);
        c.due("22 no such dish", x.second(4, 0), BAD);
        c.due("22 no such hour", x.second(0, 24), BAD);
        for (int wrong : WRONG) {
            c.due("22 dish " + wrong, x.second(wrong, 0), BAD);
            c.due("22 hour " + wrong, x.second(0, wrong), BAD);
        }
    }

    private static void mark() {
        SkyListeners x = Checks.told("dish 0;dish 1;speaker 0 4 0 0;speaker 1 4 2 3;speaker 1 5 2 3;noise 4 1 0;noise 5 2 0;noise 5 3 0;");
        x.heard(0, 0, 4, 1);
        x.heard(1, 0, 4, 0);
        x.heard(2, 0, 4, 1);
        x.heard(3, 0, 4, 1);
        x.heard(3, 0, 5, 1);
        int[] marks = {4, 6, 3, 12, 6, 6};
        long[] traces = {1, 12, 113, 1124, 11225, 111226};
        for (int kind = 0; kind < 6; kind++) {
            c.due("23 kind " + kind, x.mark(kind, 4), marks[kind]);
            c.due("27 trace of kind " + kind, x.trace(), traces[kind]);
        }
        c.due("23 below 0", Checks.told("noise 0 1 0;noise 0 2 0;").mark(2, 0), -2);
        c.due("23 kind 6", x.mark(6, 4), NO);
        c.due("23 note 10", x.mark(0, 10), NO);
        for (int wrong : WRONG) {
            c.due("23 kind " + wrong, x.mark(wrong, 0), NO);
            c.due("23 note " + wrong, x.mark(5, wrong), NO);
        }
        c.due("27 refused: no trace", x.trace(), 111226);
    }

    private static void keepAndBack() {
        SkyListeners x = Checks.told("dish 0;dish 1;asker 1 1;");
        x.lend(0, 5, 0);
        x.turn(1, 6);
        x.heard(0, 1, 3, 1);
        c.due("24 keep", x.keep(1), 1);
        x.lend(1, 7, 0);
        x.undo();
        x.undo();
        x.undo();
        x.forget();
        x.turn(0, 3);
        x.mark(0, 9);
        x.type(32, 1);
        c.due("25 other image", x.back(0), STATE);
        c.due("24 keep the other", x.keep(0), 0);
        c.due("25 back", x.back(1), 1);
        c.due("25 mounts", x.looks(0, 0), 0);
        c.due("25 turned mount", x.looks(1, 0), 6);
        c.due("25 lending", x.lent(0, 1), 5);
        c.due("25 log", x.sky(3), 64);
        c.due("25 may be undone", x.count(6), 2);
        c.due("25 text is not kept", x.count(7), 1);
        c.due("25 trace is not kept", x.trace(), 1);
        c.due("25 undo", x.undo(), 1);
        c.due("25 undone", x.looks(1, 0), 1);
        c.due("25 the image is not touched", x.back(1), 1);
        c.due("25 the image's mount", x.looks(1, 0), 6);
        c.due("25 the other image", x.back(0), 0);
        c.due("25 the other image's mount", x.looks(0, 0), 3);
        c.due("24 keep anew", x.keep(1), 0);
        c.due("25 kept anew", x.back(1), 0);
        c.due("24 image 2", x.keep(2), BAD);
        c.due("25 image 2", x.back(2), BAD);
        for (int wrong : WRONG) {
            c.due("24 image " + wrong, x.keep(wrong), BAD);
            c.due("25 image " + wrong, x.back(wrong), BAD);
        }
    }

    private static void readAnew() {
        SkyListeners x = Checks.told("dish 0;speaker 0 0 0 0;noise 0 1 0;asker 1 1;");
        x.lend(0, 5, 0);
        x.turn(0, 6);
        x.heard(0, 0, 3, 1);
        x.keep(0);
        x.keep(1);
        x.mark(5, 0);
        Checks.type(x, "dish 2;");
        c.due("4 read anew", x.valley(), 1);
        int[] counts = {1, 0, 0, 0, 0, 0, 0, 0};
        for (int what = 0; what < 8; what++) {
            c.due("4 read anew: count " + what, x.count(what), counts[what]);
        }
        c.due("4 read anew: mount", x.looks(0, 0), 2);
        c.due("4 read anew: image 0", x.back(0), STATE);
        c.due("4 read anew: image 1", x.back(1), STATE);
        c.due("4 read anew: undo", x.undo(), STATE);
        c.due("4 read anew: trace stays", x.trace(), 100001);
    }

    private static void count() {
        SkyListeners x = Checks.told("dish 0;dish 0;speaker 0 0 0 0;speaker 0 0 0 0;speaker 0 0 0 0;noise 0 1 0;"
                + "asker 0 1;asker 0 1;asker 0 1;asker 0 1;");
        x.lend(0, 0, 0);
        x.lend(0, 1, 0);
        x.lend(0, 2, 0);
        x.turn(0, 1);
        x.turn(0, 2);
        for (int i = 0; i < 6; i++) {
            x.heard(0, 0, 0, 1);
        }
        Checks.type(x, "1234567");
        int[] counts = {2, 3, 1, 4, 3, 6, 5, 7};
        for (int what = 0; what < 8; what++) {
            c.due("26 count " + what, x.count(what), counts[what]);
        }
        c.due("26 count 8", x.count(8), BAD);
        for (int wrong : WRONG) {
            c.due("26 count " + wrong, x.count(wrong), BAD);
        }
    }
}
