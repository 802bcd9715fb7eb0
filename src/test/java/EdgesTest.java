import java.util.ArrayList;
import java.util.List;

/**
 * Parts 2 to 4 of the document's terms: each sentence that names a case at an edge (too small, too large, empty, full,
 * a wrap-around, the first of several). What a refused call must leave as it was is RefusalsTest's.
 */
public final class EdgesTest {
    private static final int BAD = -1, STATE = -2, FULL = -3, NONE = -9, NO = -1000000;
    private static final int MAY = -5;
    private static final Checks c = new Checks();

    public static void main(String[] args) {
        hearsTheUnion();
        turnedForAllHours();
        twelveLendings();
        tenUndone();
        olderOnesAreLost();
        undoneAndDoneAgain();
        twice();
        inVain();

        bestOfSeveral();
        bestOfNone();
        bestOfHours();
        chanceInLeastTerms();
        chanceOfThoseLookedAt();
        apart();
        apartOfSeveral();
        tenLogged();
        skyOfAllHours();
        oursOfAll();
        couldOfAll();
        mustCanMay();
        noneCouldBe();
        secondOfTheDay();

        marksByKinds();
        traceOfAll();
        images();
        imagesOfNothing();
        readAnew();
        firstRefusal();
        c.end();
    }

    // ======== part 2: what is heard, turned, lent, undone

    private static void hearsTheUnion() {
        SkyListeners x = Checks.told("dish 0;dish 4;speaker 0 0 0 23;speaker 0 9 0 8;speaker 4 3 4 4;speaker 0 0 8 8;noise 0 12 1;noise 5 8 0;");
        c.due("two speakers and a noise", x.hears(0, 0), 1 | 512 | 32);
        c.due("the last hour of one", x.hears(0, 8), 1 | 512 | 32);
        c.due("after it", x.hears(0, 16), 1 | 32);
        c.due("a noise of a note that is spoken elsewhere", x.hears(1, 1), 1);
        c.due("nothing", x.hears(1, 2), 0);
        c.due("another place in its only hour", x.hears(1, 4), 1 | 512);
        c.due("nobody there then", x.hears(1, 0), 32);
        x.turn(0, 4);
        c.due("not from the place it looked at", x.hears(0, 0), 32);
        x.undo();
        c.due("again after it is undone", x.hears(0, 0), 1 | 512 | 32);
    }

    private static void turnedForAllHours() {
        for (int from = 0; from < 8; from++) {
            for (int to = 0; to < 8; to++) {
                SkyListeners x = Checks.told("dish 6;dish " + from + ";dish 6;");
                c.due("turn " + from + " to " + to, x.turn(1, to), from == to ? STATE : from);
                c.due("may be undone", x.count(6), from == to ? 0 : 1);
                for (int h = 0; h < 24; h++) {
                    c.due("turned to " + to + " at " + h, x.looks(1, h), (to + 24 - h) % 8);
                    c.due("the others are not turned", x.looks(0, h) + x.looks(2, h), (6 + 24 - h) % 8 * 2);
                }
            }
        }
    }

    private static void twelveLendings() {
        SkyListeners x = Checks.told("dish 0;dish 1;asker 0 1;asker 1 1;");
        for (int i = 0; i < 12; i++) {
            c.due("lend " + i, x.lend(i % 2, i * 2, 1 - i % 2), i + 1);
            c.due("counted", x.count(4), i + 1);
        }
        c.due("a thirteenth", x.lend(0, 23, 0), FULL);
        for (int i = 0; i < 12; i++) {
            c.due("dish of " + i, x.lent(i, 0), i % 2);
            c.due("hour of " + i, x.lent(i, 1), i * 2);
            c.due("asker of " + i, x.lent(i, 2), 1 - i % 2);
        }
        c.due("no thirteenth", x.lent(12, 0), BAD);
        c.due("undo one", x.undo(), 9);
        c.due("no twelfth", x.lent(11, 0), BAD);
        c.due("a twelfth again", x.lend(1, 23, 0), 12);
        c.due("that one", x.lent(11, 1), 23);
        c.due("the one ahead stays", x.lent(10, 1), 20);
        c.due("full again", x.lend(0, 0, 0), FULL);
        SkyListeners ends = Checks.told("dish 0;dish 0;dish 0;dish 0;dish 7;asker 0 1;asker 0 1;asker 0 1;asker 0 1;asker 7 1;");
        c.due("the last of each", ends.lend(4, 23, 4), 1);
        c.due("the first of each", ends.lend(0, 0, 0), 2);
        c.due("a dish beyond", ends.lend(5, 23, 4), BAD);
        c.due("an hour beyond", ends.lend(4, 24, 4), BAD);
        c.due("an asker beyond", ends.lend(4, 23, 5), BAD);
        c.due("counted", ends.count(4), 2);
    }

    private static void tenUndone() {
        for (int many = 0; many <= 12; many++) {
            SkyListeners x = Checks.told("dish 0;asker 0 1;");
            for (int i = 0; i < many; i++) {
                if (i % 3 == 1) {
                    x.turn(0, i % 8 == x.looks(0, 0) ? (i + 1) % 8 : i % 8);
                } else {
                    x.lend(0, i, 0);
                }
            }
            int known = Math.min(many, 10);
            c.due("known of " + many, x.count(6), known);
            for (int left = known - 1; left >= 0; left--) {
                c.due("undo of " + many, x.undo(), left);
                c.due("left of " + many, x.count(6), left);
            }
            c.due("none more of " + many, x.undo(), STATE);
            c.due("lendings that are lost to undo, of " + many, x.count(4), many > 10 ? 1 : 0);
        }
    }

    private static void olderOnesAreLost() {
        SkyListeners x = Checks.told("dish 0;dish 5;asker 0 1;");
        x.turn(0, 3);
        x.turn(1, 6);
        for (int i = 0; i < 9; i++) {
            x.lend(0, i, 0);
        }
        c.due("eleven: ten are known", x.count(6), 10);
        for (int left = 9; left >= 0; left--) {
            c.due("undo", x.undo(), left);
        }
        c.due("the second turn is undone", x.looks(1, 0), 5);
        c.due("the first is lost", x.looks(0, 0), 3);
        c.due("none", x.undo(), STATE);
        c.due("no lending", x.count(4), 0);
        SkyListeners lent = Checks.told("dish 0;asker 0 1;");
        for (int i = 0; i < 12; i++) {
            lent.lend(0, i, 0);
        }
        for (int left = 9; left >= 0; left--) {
            c.due("undo a lending", lent.undo(), left);
            c.due("lendings", lent.count(4), left + 2);
        }
        c.due("the first two are lost to undo", lent.undo(), STATE);
        c.due("the first", lent.lent(0, 1), 0);
        c.due("the second", lent.lent(1, 1), 1);
        // turned between the lost ones and the latest
        SkyListeners both = Checks.told("dish 0;asker 0 1;");
        both.lend(0, 0, 0);
        for (int i = 1; i <= 10; i++) {
            both.turn(0, i % 2 == 0 ? 0 : i % 8);
        }
        for (int left = 9; left >= 0; left--) {
            c.due("undo a turn", both.undo(), left);
            c.due("mount " + left, both.looks(0, 0), left % 2 == 0 ? 0 : left % 8);
            c.due("the lending stays", both.count(4), 1);
        }
        c.due("the lending is lost to undo", both.undo(), STATE);
    }

    private static void undoneAndDoneAgain() {
        SkyListeners x = Checks.told("dish 0;dish 1;asker 0 1;");
        x.turn(0, 1);
        x.turn(0, 2);
        c.due("undo", x.undo(), 1);
        c.due("to the mount ahead", x.looks(0, 0), 1);
        c.due("turned anew", x.turn(0, 5), 1);
        c.due("two again", x.count(6), 2);
        c.due("what is refused is not undone", x.turn(0, 5), STATE);
        c.due("nor what is bad", x.turn(0, 8), BAD);
        c.due("nor a bad lending", x.lend(0, 0, 1), BAD);
        c.due("nor the log", x.heard(0, 0, 0, 1), 1);
        c.due("still two", x.count(6), 2);
        c.due("undo the new one", x.undo(), 1);
        c.due("to the mount ahead again", x.looks(0, 0), 1);
        c.due("undo the first", x.undo(), 0);
        c.due("as told", x.looks(0, 0), 0);
        c.due("none", x.undo(), STATE);
        c.due("the log stays", x.count(5), 1);
        // a lending that is refused as FULL puts none of the ten out
        SkyListeners full = Checks.told("dish 0;asker 0 1;");
        for (int i = 0; i < 12; i++) {
            full.lend(0, i, 0);
        }
        for (int i = 0; i < 5; i++) {
            c.due("full", full.lend(0, 23, 0), FULL);
        }
        c.due("ten still", full.undo(), 9);
        c.due("eleven lendings", full.count(4), 11);
        // undone to none, ten may be undone once more
        for (int i = 0; i < 9; i++) {
            full.undo();
        }
        for (int i = 1; i <= 11; i++) {
            full.turn(0, i % 8);
            c.due("known anew", full.count(6), Math.min(i, 10));
        }
    }

    private static SkyListeners lent(int[][] lendings) {
        SkyListeners x = Checks.told("dish 0;dish 0;dish 0;asker 0 1;asker 1 1;");
        for (int[] one : lendings) {
            x.lend(one[0], one[1], one[2]);
        }
        return x;
    }

    private static void twice() {
        c.due("no lending", lent(new int[][] {}).twice(0), NONE);
        c.due("one lending", lent(new int[][] {{0, 0, 0}}).twice(0), NONE);
        c.due("the same twice", lent(new int[][] {{0, 0, 0}, {0, 0, 0}}).twice(0), 1);
        c.due("to another asker", lent(new int[][] {{2, 23, 0}, {2, 23, 1}}).twice(0), 1);
        c.due("another dish", lent(new int[][] {{0, 5, 0}, {1, 5, 0}}).twice(0), NONE);
        c.due("another hour", lent(new int[][] {{0, 5, 0}, {0, 6, 0}}).twice(0), NONE);
        c.due("a dish ahead", lent(new int[][] {{1, 5, 0}, {0, 5, 0}}).twice(0), NONE);
        c.due("an hour ahead", lent(new int[][] {{0, 6, 0}, {0, 5, 0}}).twice(0), NONE);
        c.due("eight hours later", lent(new int[][] {{0, 5, 0}, {0, 13, 0}}).twice(0), NONE);
        c.due("dish and hour changed over", lent(new int[][] {{0, 1, 0}, {1, 0, 0}}).twice(0), NONE);
        c.due("the first whose slot is lent ahead", lent(new int[][] {{0, 1, 0}, {0, 2, 0}, {0, 2, 1}, {0, 1, 1}}).twice(0), 2);
        c.due("in turns", lent(new int[][] {{0, 1, 0}, {0, 2, 0}, {0, 1, 0}, {0, 2, 1}}).twice(0), 2);
        c.due("three times", lent(new int[][] {{1, 1, 0}, {1, 1, 0}, {1, 1, 0}}).twice(0), 1);
        SkyListeners x = lent(new int[][] {});
        for (int i = 0; i < 11; i++) {
            x.lend(i % 3, i, 0);
        }
        c.due("eleven of their own", x.twice(0), NONE);
        x.lend(0, 0, 1);
        c.due("the twelfth lends what the first does", x.twice(0), 11);
        x.undo();
        c.due("undone", x.twice(0), NONE);
        x.lend(1, 10, 1);
        c.due("the twelfth lends what the eleventh does", x.twice(0), 11);
    }

    private static void inVain() {
        SkyListeners x = Checks.told("dish 0;dish 1;asker 0 1;asker 7 1;");
        c.due("no lending", x.twice(1), 0);
        x.lend(0, 0, 0);
        c.due("it looks there", x.twice(1), 0);
        x.lend(0, 8, 0);
        x.lend(0, 16, 0);
        x.lend(0, 23, 0);
        c.due("at 23 it does not", x.twice(1), 1);
        x.lend(0, 1, 1);
        c.due("the other asker's place", x.twice(1), 1);
        x.lend(0, 1, 0);
        c.due("not the other asker's", x.twice(1), 2);
        x.lend(1, 1, 0);
        x.lend(1, 0, 0);
        c.due("the other dish an hour later", x.twice(1), 3);
        x.turn(0, 1);
        c.due("as mounted now", x.twice(1), 6);
        x.undo();
        c.due("as mounted again", x.twice(1), 3);
        SkyListeners all = Checks.told("dish 0;asker 4 1;");
        for (int i = 0; i < 12; i++) {
            all.lend(0, i, 0);
        }
        c.due("all of twelve but at 4", all.twice(1), 11);
    }

    // ======== part 3: thinking

    private static void best(SkyListeners x, int a, int b, int sure, int set) {
        c.due("best of " + a + " to " + b + ": sure", x.best(a, b, 0), sure);
        c.due("best of " + a + " to " + b + ": set", x.best(a, b, 1), set);
    }

    private static void bestOfSeveral() {
        best(Checks.told("dish 0;asker 0 5;asker 0 5;asker 0 5;asker 0 5;asker 0 5;"), 0, 0, 5, 1);
        best(Checks.told("dish 0;asker 0 5;asker 0 5;asker 0 5;asker 0 5;asker 0 5;"), 0, 8, 10, 3);
        best(Checks.told("dish 0;asker 0 5;asker 0 5;asker 0 5;asker 0 5;asker 0 5;"), 0, 23, 15, 7);
        best(Checks.told("dish 0;asker 0 4;asker 0 5;asker 0 4;asker 0 5;asker 0 5;"), 0, 0, 5, 2);
        best(Checks.told("dish 0;asker 0 4;asker 0 5;asker 0 4;asker 0 5;asker 0 5;"), 0, 8, 10, 10);
        best(Checks.told("dish 0;asker 0 4;asker 0 5;asker 0 4;asker 0 4;asker 0 9;"), 0, 16, 18, 19);
        best(Checks.told("dish 0;dish 1;asker 0 3;asker 1 2;asker 0 3;asker 1 2;"), 0, 0, 5, 3);
        best(Checks.told("dish 0;dish 1;asker 0 3;asker 1 2;asker 0 3;asker 1 2;"), 0, 1, 8, 7);
        best(Checks.told("dish 0;dish 1;asker 0 2;asker 1 2;asker 0 3;asker 1 3;"), 0, 0, 6, 12);
        best(Checks.told("dish 7;asker 7 1;asker 7 1;asker 7 1;asker 7 1;asker 7 9;"), 0, 0, 9, 16);
        best(Checks.told("dish 0;dish 0;dish 0;dish 0;dish 0;asker 0 9;asker 0 9;asker 0 9;asker 0 9;asker 0 9;"), 0, 0, 45, 31);
        best(Checks.told("dish 0;dish 0;dish 0;dish 0;asker 0 9;asker 0 9;asker 0 9;asker 0 9;asker 0 9;"), 0, 0, 36, 15);
    }

    private static void bestOfNone() {
        best(new SkyListeners(), 0, 23, 0, 0);
        best(Checks.told("dish 0;"), 0, 23, 0, 0);
        best(Checks.told("asker 0 9;"), 0, 23, 0, 0);
        best(Checks.told("dish 0;asker 1 9;"), 0, 6, 0, 0);
        best(Checks.told("dish 0;asker 1 9;"), 0, 7, 9, 1);
        best(Checks.told("dish 0;asker 1 9;"), 7, 7, 9, 1);
        best(Checks.told("dish 0;asker 1 9;"), 8, 14, 0, 0);
    }

    private static void bestOfHours() {
        SkyListeners x = Checks.told("dish 0;asker 0 3;asker 1 4;");
        best(x, 0, 0, 3, 1);
        best(x, 23, 23, 4, 2);
        best(x, 16, 23, 7, 3);
        best(x, 17, 22, 0, 0);
        best(x, 16, 22, 3, 1);
        best(x, 17, 23, 4, 2);
        c.due("b 24", x.best(0, 24, 0), BAD);
        c.due("a -1", x.best(-1, 0, 0), BAD);
        c.due("a 24", x.best(24, 24, 0), BAD);
        c.due("b less than a", x.best(1, 0, 0), BAD);
        c.due("what 2", x.best(0, 0, 2), BAD);
        // what is lent already takes nothing from the best
        x.lend(0, 0, 1);
        x.lend(0, 0, 0);
        best(x, 0, 0, 3, 1);
        c.due("nothing is lent by it", x.count(4), 2);
        x.turn(0, 1);
        best(x, 0, 0, 4, 2);
        best(x, 0, 1, 7, 3);
    }

    private static void chance(SkyListeners x, int a, int b, int upper, int lower) {
        c.due("chance of " + a + " to " + b + ": upper", x.chance(a, b, 0), upper);
        c.due("chance of " + a + " to " + b + ": lower", x.chance(a, b, 1), lower);
    }

    private static void chanceInLeastTerms() {
        int[][] one = {{1, 10}, {1, 5}, {3, 10}, {2, 5}, {1, 2}, {3, 5}, {7, 10}, {4, 5}, {9, 10}};
        for (int sure = 1; sure <= 9; sure++) {
            chance(Checks.told("dish 0;asker 0 " + sure + ";"), 0, 0, one[sure - 1][0], one[sure - 1][1]);
        }
        chance(Checks.told("dish 0;asker 0 5;asker 0 5;"), 0, 0, 3, 4);
        chance(Checks.told("dish 0;asker 0 5;asker 0 5;asker 0 5;asker 0 5;asker 0 5;"), 0, 0, 31, 32);
        chance(Checks.told("dish 0;asker 0 9;asker 0 9;asker 0 9;asker 0 9;asker 0 9;"), 0, 0, 99999, 100000);
        chance(Checks.told("dish 0;asker 0 1;asker 0 1;asker 0 1;asker 0 1;asker 0 1;"), 0, 0, 40951, 100000);
        chance(Checks.told("dish 0;asker 0 2;asker 0 5;"), 0, 0, 3, 5);
        chance(Checks.told("dish 0;asker 0 8;asker 0 5;asker 0 5;"), 0, 0, 19, 20);
        chance(Checks.told("dish 0;asker 0 4;asker 0 4;asker 0 4;asker 0 4;asker 0 4;"), 0, 0, 2882, 3125);
    }

    private static void chanceOfThoseLookedAt() {
        chance(new SkyListeners(), 0, 23, 0, 1);
        chance(Checks.told("dish 0;"), 0, 23, 0, 1);
        chance(Checks.told("asker 0 9;"), 0, 23, 0, 1);
        SkyListeners x = Checks.told("dish 0;asker 0 3;asker 1 4;");
        chance(x, 0, 0, 3, 10);
        chance(x, 0, 6, 3, 10);
        chance(x, 0, 7, 29, 50);
        chance(x, 7, 7, 2, 5);
        chance(x, 1, 6, 0, 1);
        chance(x, 17, 22, 0, 1);
        chance(x, 23, 23, 2, 5);
        chance(x, 16, 23, 29, 50);
        // looked at by two dishes, in three hours: right but once
        SkyListeners two = Checks.told("dish 0;dish 0;asker 0 3;");
        chance(two, 0, 23, 3, 10);
        chance(Checks.told("dish 0;dish 4;asker 0 3;"), 0, 0, 3, 10);
        chance(Checks.told("dish 4;dish 0;asker 0 3;"), 0, 0, 3, 10);
        chance(Checks.told("dish 0;dish 4;asker 0 3;asker 4 5;"), 0, 0, 13, 20);
        c.due("b 24", x.chance(0, 24, 0), BAD);
        c.due("a -1", x.chance(-1, 0, 1), BAD);
        c.due("a 24", x.chance(24, 24, 1), BAD);
        c.due("b less than a", x.chance(23, 22, 1), BAD);
        c.due("what 2", x.chance(0, 0, 2), BAD);
        x.turn(0, 1);
        chance(x, 0, 0, 2, 5);
    }

    private static void apart(SkyListeners x, int a, int b, int many, int set) {
        c.due("apart from " + a + " to " + b + ": how many", x.apart(a, b, 0), many);
        c.due("apart from " + a + " to " + b + ": set", x.apart(a, b, 1), set);
    }

    private static void apart() {
        apart(new SkyListeners(), 0, 23, NONE, NONE);
        apart(Checks.told("asker 0 1;"), 0, 23, NONE, NONE);
        for (int a = 0; a < 24; a++) {
            SkyListeners x = Checks.told("dish 6;");
            for (int b = a; b < 24; b++) {
                apart(x, a, b, b - a >= 6 ? 1 : NONE, b - a >= 6 ? 1 : NONE);
            }
        }
        SkyListeners one = Checks.told("dish 6;");
        c.due("b 24", one.apart(0, 24, 0), BAD);
        c.due("a -1", one.apart(-1, 0, 1), BAD);
        c.due("a 24", one.apart(24, 24, 1), BAD);
        c.due("b less than a", one.apart(23, 0, 1), BAD);
        c.due("what 2", one.apart(0, 6, 2), BAD);
        c.due("what 2, none", one.apart(0, 0, 2), BAD);
        // five dishes see five places of one hour at most
        apart(Checks.told("dish 0;dish 1;dish 2;dish 3;dish 4;"), 0, 0, NONE, NONE);
        apart(Checks.told("dish 0;dish 2;dish 4;dish 6;"), 0, 1, 4, 15);
        apart(Checks.told("dish 0;dish 2;dish 4;"), 0, 1, NONE, NONE);
        apart(Checks.told("dish 0;dish 2;dish 4;dish 5;"), 5, 6, 4, 15);
        apart(Checks.told("dish 0;dish 2;dish 4;dish 4;"), 5, 6, NONE, NONE);
    }

    private static void apartOfSeveral() {
        apart(Checks.told("dish 3;dish 3;dish 3;"), 0, 6, 1, 1);
        apart(Checks.told("dish 0;dish 0;dish 4;dish 4;dish 4;"), 0, 3, 2, 5);
        apart(Checks.told("dish 0;dish 1;dish 2;dish 3;dish 4;"), 0, 3, 2, 9);
        apart(Checks.told("dish 0;dish 1;dish 2;dish 4;dish 4;"), 0, 3, 2, 9);
        apart(Checks.told("dish 4;dish 4;dish 4;dish 4;dish 0;"), 0, 3, 2, 17);
        apart(Checks.told("dish 0;dish 2;dish 2;dish 4;dish 6;"), 0, 1, 4, 27);
        apart(Checks.told("dish 0;dish 0;dish 3;dish 6;dish 6;"), 0, 2, 3, 13);
        SkyListeners x = Checks.told("dish 0;dish 0;");
        apart(x, 0, 5, NONE, NONE);
        x.turn(1, 1);
        apart(x, 0, 5, 2, 3);
        x.undo();
        apart(x, 0, 5, NONE, NONE);
        apart(x, 17, 23, 1, 1);
    }

    private static void tenLogged() {
        SkyListeners x = Checks.told("dish 0;");
        for (int i = 1; i <= 10; i++) {
            c.due("heard " + i, x.heard(i, 0, i % 2 * 9, i % 2), i);
            c.due("counted", x.count(5), i);
        }
        c.due("an eleventh", x.heard(11, 0, 3, 1), FULL);
        c.due("the same once more", x.heard(1, 0, 9, 1), FULL);
        c.due("it has ten", x.count(5), 10);
        c.due("nothing of the eleventh", x.sky(3), 255);
        c.due("forget ten", x.forget(), 10);
        c.due("forget none", x.forget(), 0);
        c.due("none of all", x.could(9), 2400);
        c.due("one again", x.heard(23, 0, 9, 1), 1);
        c.due("just that", x.sky(9), 2);
        SkyListeners five = Checks.told("dish 0;dish 1;dish 2;dish 3;dish 4;");
        c.due("the last of each", five.heard(23, 4, 9, 1), 1);
        c.due("the first of each", five.heard(0, 0, 0, 0), 2);
        c.due("the same twice", five.heard(0, 0, 0, 0), 3);
        c.due("an hour beyond", five.heard(24, 4, 9, 1), BAD);
        c.due("a dish beyond", five.heard(23, 5, 9, 1), BAD);
        c.due("a note beyond", five.heard(23, 4, 10, 1), BAD);
        c.due("is beyond", five.heard(23, 4, 9, 2), BAD);
        c.due("counted", five.count(5), 3);
    }

    private static void skyOfAllHours() {
        SkyListeners x = Checks.told("dish 0;dish 1;");
        for (int h = 0; h < 8; h++) {
            x.heard(h, 0, 9, 0);
            c.due("not where it looked till " + h, x.sky(9), new int[] {254, 126, 62, 30, 14, 6, 2, 0}[h]);
        }
        c.due("another note", x.sky(0), 255);
        c.due("note 8", x.sky(8), 255);
        x.forget();
        x.heard(0, 0, 9, 1);
        c.due("just there", x.sky(9), 1);
        x.heard(16, 0, 9, 1);
        c.due("there again", x.sky(9), 1);
        x.heard(1, 1, 9, 1);
        c.due("by the other dish, too", x.sky(9), 1);
        x.heard(9, 1, 9, 0);
        c.due("not in all hours", x.sky(9), 0);
        c.due("but for a while", x.could(9), 0);
        x.forget();
        x.heard(0, 0, 9, 1);
        x.heard(0, 1, 9, 1);
        c.due("from two places", x.sky(9), 0);
        x.turn(1, 0);
        c.due("from one, as mounted now", x.sky(9), 1);
        x.undo();
        c.due("from two again", x.sky(9), 0);
        x.forget();
        x.heard(3, 0, 2, 1);
        x.heard(3, 0, 2, 0);
        c.due("heard and not heard", x.sky(2), 0);
    }

    private static int laws(SkyListeners x, int note, int each, int since) {
        c.due("each of the first", x.ours(note, 1), each);
        c.due("since of the first", x.ours(note, 2), since);
        return x.ours(note, 0);
    }

    private static void oursOfAll() {
        SkyListeners x = Checks.told("dish 0;");
        c.due("all laws", laws(new SkyListeners(), 0, 1, 0), 78);
        c.due("all laws of the last note", laws(x, 9, 1, 0), 78);
        x.heard(0, 0, 9, 1);
        c.due("heard at 0: one of each", laws(x, 9, 1, 0), 12);
        x.heard(1, 0, 9, 0);
        c.due("not at 1", laws(x, 9, 2, 0), 11);
        x.heard(12, 0, 9, 0);
        c.due("not at 12", laws(x, 9, 5, 0), 6);
        x.forget();
        x.heard(23, 0, 9, 1);
        c.due("heard at 23: one of each", laws(x, 9, 1, 0), 12);
        x.heard(22, 0, 9, 0);
        c.due("not at 22", laws(x, 9, 2, 1), 11);
        x.heard(11, 0, 9, 0);
        c.due("not at 11", laws(x, 9, 5, 3), 6);
        x.heard(11, 0, 9, 1);
        c.due("heard and not heard", laws(x, 9, NONE, NONE), 0);
        c.due("another note", laws(x, 8, 1, 0), 78);
        c.due("what 3", x.ours(9, 3), BAD);
        // the first by EACH, then by SINCE: of EACH 3 there are 1 and 2 left
        x.forget();
        x.heard(0, 0, 5, 0);
        x.heard(1, 0, 5, 0);
        c.due("neither at 0 nor at 1", laws(x, 5, 3, 2), 55);
        x.forget();
        x.heard(0, 0, 5, 0);
        c.due("not at 0", laws(x, 5, 2, 1), 66);
        x.heard(3, 0, 5, 0);
        c.due("nor at 3", laws(x, 5, 3, 1), 56);
        // where the dish looks does not matter
        x.turn(0, 5);
        c.due("turned", laws(x, 5, 3, 1), 56);
    }

    private static void couldOfAll() {
        SkyListeners x = Checks.told("dish 0;dish 4;");
        c.due("all speakers", new SkyListeners().could(9), 2400);
        int[] hours = {0, 1, 7, 8, 11, 12, 22, 23};
        for (int h : hours) {
            x.forget();
            x.heard(h, 0, 9, 0);
            c.due("not at " + h, x.could(9), 2400 - (h + 1) * (24 - h));
            x.forget();
            x.heard(h, 0, 9, 1);
            c.due("at " + h, x.could(9), (h + 1) * (24 - h));
            c.due("another note", x.could(0), 2400);
        }
        x.forget();
        x.heard(0, 0, 9, 1);
        x.heard(16, 0, 9, 1);
        c.due("from 0 till 16 or later", x.could(9), 8);
        x.heard(20, 1, 9, 0);
        c.due("till 19 at most", x.could(9), 4);
        x.heard(4, 1, 9, 0);
        c.due("not with a hole", x.could(9), 0);
        // from one hour to the same hour is a speaker, too
        x.forget();
        x.heard(8, 0, 9, 1);
        x.heard(4, 1, 9, 0);
        x.heard(12, 1, 9, 0);
        c.due("5 .. 8 to 8 .. 11", x.could(9), 16);
        x.turn(1, 5);
        c.due("as mounted now: 0 .. 8 to 8 .. 23", x.could(9), 9 * 16);
    }

    private static void mustCanMay() {
        SkyListeners x = Checks.told("dish 0;dish 0;dish 1;");
        for (int h = 0; h < 24; h++) {
            c.due("anything may at " + h, x.must(9, 0, h), MAY);
        }
        x.heard(0, 0, 9, 1);
        c.due("in that hour it must", x.must(9, 0, 0), 1);
        c.due("by the dish beside it, too", x.must(9, 1, 0), 1);
        c.due("elsewhere it can't", x.must(9, 2, 0), 0);
        c.due("an hour later it may", x.must(9, 2, 1), MAY);
        c.due("at 16 it may", x.must(9, 0, 16), MAY);
        c.due("at 23 the dish looks elsewhere", x.must(9, 0, 23), 0);
        x.heard(16, 0, 9, 1);
        c.due("between it must", x.must(9, 0, 8), 1);
        c.due("between it must, by another", x.must(9, 2, 9), 1);
        c.due("after it, it may", x.must(9, 2, 17), MAY);
        x.heard(17, 2, 9, 0);
        c.due("not after a silence", x.must(9, 2, 17), 0);
        c.due("another note may", x.must(8, 0, 0), MAY);
        x.forget();
        x.heard(8, 0, 9, 0);
        c.due("a silence alone: there it can't", x.must(9, 0, 8), 0);
        c.due("later it may", x.must(9, 0, 16), MAY);
        c.due("earlier it may", x.must(9, 0, 0), MAY);
        // noises and speakers that are told have no part in it
        SkyListeners told = Checks.told("dish 0;speaker 0 9 0 23;noise 9 1 0;");
        told.heard(0, 0, 9, 0);
        c.due("by the log alone", told.must(9, 0, 0), 0);
        c.due("could by the log alone", told.could(9), 2376);
        c.due("sky by the log alone", told.sky(9), 254);
    }

    private static void noneCouldBe() {
        SkyListeners x = Checks.told("dish 0;dish 1;");
        x.heard(0, 0, 0, 1);
        x.heard(0, 1, 0, 1);
        c.due("from two places: could", x.could(0), 0);
        for (int d = 0; d < 2; d++) {
            for (int h = 0; h < 24; h++) {
                c.due("from two places: must " + d + " " + h, x.must(0, d, h), NONE);
            }
        }
        c.due("another note", x.must(1, 0, 0), MAY);
        x.turn(1, 0);
        c.due("from one: could", x.could(0), 24);
        c.due("from one: must", x.must(0, 1, 0), 1);
        x.forget();
        x.heard(5, 0, 0, 0);
        x.heard(5, 0, 0, 1);
        c.due("heard and not heard: could", x.could(0), 0);
        c.due("heard and not heard: must", x.must(0, 0, 5), NONE);
        c.due("a dish beyond", x.must(0, 2, 5), BAD);
        c.due("an hour beyond", x.must(0, 0, 24), BAD);
        c.due("a note beyond", x.must(10, 0, 5), BAD);
    }

    private static void secondOfTheDay() {
        for (int mount = 0; mount < 8; mount++) {
            SkyListeners x = Checks.told("dish 0;dish " + mount + ";");
            for (int h = 0; h < 24; h++) {
                // the other one comes there as many hours later as it is mounted further on
                c.due("mount " + mount + " at " + h, x.second(0, h), h + mount <= 23 ? 1 : 0);
            }
        }
        c.due("one dish alone", Checks.told("dish 0;").second(0, 0), 0);
        SkyListeners x = Checks.told("dish 0;dish 0;dish 0;dish 0;dish 0;");
        c.due("four others at 0", x.second(0, 0), 4);
        c.due("four others at 23", x.second(4, 23), 4);
        x.turn(2, 1);
        c.due("three others at 23", x.second(4, 23), 3);
        c.due("four others at 22", x.second(4, 22), 4);
        c.due("none that day", x.second(2, 23), 0);
        c.due("none in seven hours", x.second(2, 17), 0);
        c.due("all in eight hours", x.second(2, 16), 4);
    }

    // ======== part 4: kinds, images

    private static void marksByKinds() {
        for (int note = 0; note < 10; note++) {
            SkyListeners x = Checks.told(("speaker 0 # 0 0;speaker 1 # 1 1;dish 0;dish 0;dish 0;noise # 1 0;noise # 2 0;noise # 3 0;"
                + "speaker 0 " + (note + 1) % 10 + " 0 0;").replace("#", Integer.toString(note)));
            x.heard(0, 0, note, 1);
            x.heard(0, 0, note, 0);
            x.heard(1, 1, note, 1);
            x.heard(1, 1, (note + 1) % 10, 1);
            x.heard(1, 1, (note + 9) % 10, 0);
            int[] due = {note, note + 2, note - 3, (note + 2) * 2, note - 3 + 2, note + 3};
            int[] traces = {1, 11, 101, 1011, 10101, 100001};
            long trace = 0;
            for (int kind = 0; kind < 6; kind++) {
                c.due("mark " + kind + " of " + note, x.mark(kind, note), due[kind]);
                trace += traces[kind];
                c.due("trace of " + kind, x.trace(), trace);
            }
            c.due("kind 6", x.mark(6, note), NO);
            c.due("kind -1", x.mark(-1, note), NO);
            c.due("trace stays", x.trace(), trace);
        }
        SkyListeners none = new SkyListeners();
        for (int kind = 0; kind < 6; kind++) {
            c.due("mark " + kind + " where there is nothing", none.mark(kind, 0), 0);
            c.due("mark " + kind + " of 9 where there is nothing", none.mark(kind, 9), kind == 3 ? 18 : 9);
        }
        // answers below 0, which are no refusals
        c.due("one noise", Checks.told("noise 0 1 0;").mark(2, 0), -1);
        c.due("two noises", Checks.told("noise 0 1 0;noise 0 1 0;").mark(2, 0), -2);
        c.due("three noises", Checks.told("noise 0 1 0;noise 0 1 0;noise 0 1 0;").mark(4, 0), -3);
        c.due("five speakers", Checks.told("speaker 0 9 0 0;speaker 0 9 0 0;speaker 0 9 0 0;speaker 0 9 0 0;speaker 0 9 0 0;").mark(3, 9), 28);
        c.due("note 10", none.mark(0, 10), NO);
        c.due("note -1", none.mark(0, -1), NO);
    }

    private static void traceOfAll() {
        SkyListeners x = Checks.told("dish 0;");
        for (int i = 1; i <= 200; i++) {
            x.mark(5, 9);
        }
        c.due("of two hundred echoes", x.trace(), 20000200L);
        x.keep(0);
        x.mark(4, 0);
        x.back(0);
        c.due("not kept by an image", x.trace(), 20010301L);
        x.undo();
        x.forget();
        x.clear();
        x.valley();
        c.due("not read anew", x.trace(), 20010301L);
        x.mark(0, 0);
        c.due("goes on", x.trace(), 20010302L);
        Checks.type(x, "dish 8;");
        x.valley();
        c.due("not of a fault", x.trace(), 20010302L);
        x.mark(0, 10);
        x.mark(6, 0);
        c.due("not of a refusal", x.trace(), 20010302L);
        c.due("another object has its own", new SkyListeners().trace(), 0);
    }

    private static void images() {
        SkyListeners x = Checks.told("dish 0;dish 1;asker 0 1;asker 1 2;");
        c.due("none was kept, 0", x.back(0), STATE);
        c.due("none was kept, 1", x.back(1), STATE);
        x.lend(0, 3, 0);
        x.lend(1, 4, 1);
        x.turn(0, 7);
        x.heard(0, 0, 5, 1);
        c.due("keep 0", x.keep(0), 2);
        c.due("none was kept as 1", x.back(1), STATE);
        x.heard(1, 0, 5, 1);
        x.undo();
        x.undo();
        x.undo();
        c.due("keep 1", x.keep(1), 0);
        c.due("back 0", x.back(0), 2);
        c.due("mount", x.looks(0, 0), 7);
        c.due("lending", x.lent(1, 1), 4);
        c.due("log", x.count(5), 1);
        c.due("sky", x.sky(5), 128);
        c.due("may be undone", x.count(6), 3);
        c.due("back is not undone, the turn is", x.undo(), 2);
        c.due("mount as told", x.looks(0, 0), 0);
        c.due("back 1", x.back(1), 0);
        c.due("no lending", x.lent(0, 0), BAD);
        c.due("log of two", x.count(5), 2);
        c.due("none may be undone", x.undo(), STATE);
        c.due("what came after leaves the image", x.lend(0, 0, 0) + x.turn(1, 5) + x.forget(), 1 + 1 + 2);
        c.due("back 1 again", x.back(1), 0);
        c.due("log of two again", x.count(5), 2);
        c.due("mount again", x.looks(1, 0), 1);
        c.due("back 0 again", x.back(0), 2);
        c.due("mount of 0 again", x.looks(0, 0), 7);
        c.due("keep 1 over", x.keep(1), 2);
        x.undo();
        x.undo();
        c.due("back 1 as kept last", x.back(1), 2);
        c.due("its undone", x.count(6), 3);
        c.due("image 2", x.keep(2), BAD);
        c.due("image 2 back", x.back(2), BAD);
        c.due("image -1", x.keep(-1), BAD);
        c.due("image -1 back", x.back(-1), BAD);
        c.due("nothing else is kept: text", x.type(32, 5) + x.back(0) + x.count(7), 5 + 2 + 5);
        // an image of all there can be
        SkyListeners full = Checks.told("dish 0;dish 1;dish 2;dish 3;dish 4;asker 0 1;");
        for (int i = 0; i < 12; i++) {
            full.lend(i % 5, i, 0);
        }
        for (int i = 0; i < 10; i++) {
            full.heard(i, i % 5, i, i % 2);
        }
        for (int d = 0; d < 5; d++) {
            full.turn(d, 7);
        }
        c.due("keep twelve", full.keep(1), 12);
        for (int i = 0; i < 10; i++) {
            full.undo();
        }
        full.forget();
        c.due("back to twelve", full.back(1), 12);
        c.due("ten logged", full.count(5), 10);
        c.due("the last lending", full.lent(11, 1), 11);
        for (int left = 9; left >= 5; left--) {
            c.due("dish " + (left - 5) + " is turned", full.looks(left - 5, 0), 7);
            c.due("undo a turn", full.undo(), left);
            c.due("dish " + (left - 5) + " is turned back", full.looks(left - 5, 0), left - 5);
        }
        for (int left = 4; left >= 0; left--) {
            c.due("undo a lending", full.undo(), left);
            c.due("lendings", full.count(4), 7 + left);
        }
        c.due("none more", full.undo(), STATE);
    }

    private static void imagesOfNothing() {
        SkyListeners x = new SkyListeners();
        c.due("keep nothing", x.keep(1), 0);
        c.due("back to nothing", x.back(1), 0);
        c.due("the other was not kept", x.back(0), STATE);
        Checks.type(x, "dish 3;asker 3 1;");
        c.due("valley", x.valley(), 2);
        c.due("images are gone", x.back(1), STATE);
        c.due("and can be kept again", x.keep(1), 0);
        x.lend(0, 0, 0);
        c.due("back", x.back(1), 0);
        c.due("the dish is there", x.looks(0, 0), 3);
        Checks.type(x, "dish 8;");
        c.due("a fault", x.valley(), -15);
        c.due("leaves the image", x.back(1), 0);
        x.clear();
        c.due("nothing is told", x.valley(), 0);
        c.due("the images are gone, too", x.back(1), STATE);
        c.due("no dish", x.count(0), 0);
    }

    private static void readAnew() {
        List<String> texts = new ArrayList<>(List.of("", "dish 4;", "speaker 1 2 3 4;", "noise 3 4 1;", "asker 5 6;"));
        for (String text : texts) {
            SkyListeners x = Checks.told("dish 1;dish 2;speaker 0 0 0 0;noise 0 1 0;asker 0 1;asker 2 2;");
            x.turn(0, 5);
            x.lend(1, 1, 1);
            x.heard(1, 1, 1, 1);
            x.keep(0);
            x.keep(1);
            x.mark(1, 3);
            Checks.type(x, text);
            int[] due = new int[8];
            if (!text.isEmpty()) {
                due[texts.indexOf(text) - 1] = 1;
            }
            c.due("valley of '" + text + "'", x.valley(), text.isEmpty() ? 0 : 1);
            for (int what = 0; what < 8; what++) {
                c.due("'" + text + "': count " + what, x.count(what), due[what]);
            }
            c.due("no image 0", x.back(0), STATE);
            c.due("no image 1", x.back(1), STATE);
            c.due("nothing to be undone", x.undo(), STATE);
            c.due("nothing lent", x.lent(0, 0), BAD);
            c.due("no log", x.sky(1), 255);
            c.due("none twice", x.twice(0), NONE);
            c.due("none in vain", x.twice(1), 0);
            c.due("trace stays", x.trace(), 11);
            c.due("dish 0", x.looks(0, 0), text.startsWith("dish") ? 4 : BAD);
            c.due("no dish 1", x.looks(1, 0), BAD);
            c.due("asker 0", x.asker(0, 1), text.startsWith("asker") ? 6 : BAD);
            c.due("mark of its noise", x.mark(2, 3), text.startsWith("noise") ? 2 : 3);
            c.due("mark of its speaker", x.mark(1, 2), text.startsWith("speaker") ? 3 : 2);
        }
        // as told: the mount of the text, not the one it was turned to
        SkyListeners same = Checks.told("dish 1;");
        same.turn(0, 6);
        Checks.type(same, "dish 1;");
        same.valley();
        c.due("mount as told", same.looks(0, 0), 1);
    }

    private static void firstRefusal() {
        SkyListeners x = Checks.told("dish 1;asker 1 1;");
        c.due("turn: STATE", x.turn(0, 1), STATE);
        c.due("turn: BAD, a dish that is none", x.turn(1, 1), BAD);
        c.due("back: STATE", x.back(0), STATE);
        c.due("back: BAD", x.back(2), BAD);
        for (int i = 0; i < 12; i++) {
            x.lend(0, i, 0);
        }
        c.due("lend: FULL", x.lend(0, 0, 0), FULL);
        c.due("lend: BAD dish", x.lend(1, 0, 0), BAD);
        c.due("lend: BAD hour", x.lend(0, -1, 0), BAD);
        c.due("lend: BAD asker", x.lend(0, 0, 1), BAD);
        for (int i = 0; i < 10; i++) {
            x.heard(0, 0, 0, 0);
        }
        c.due("heard: FULL", x.heard(0, 0, 0, 0), FULL);
        c.due("heard: BAD hour", x.heard(24, 0, 0, 0), BAD);
        c.due("heard: BAD dish", x.heard(0, 1, 0, 0), BAD);
        c.due("heard: BAD note", x.heard(0, 0, 10, 0), BAD);
        c.due("heard: BAD is", x.heard(0, 0, 0, 2), BAD);
        Checks.type(x, " ".repeat(250));
        c.due("type: FULL", x.type(32, 1), FULL);
        c.due("type: BAD, 0", x.type(32, 0), BAD);
        c.due("type: BAD, 9", x.type(32, 9), BAD);
    }
}
