/**
 * The first part of the document's terms, the sky and the text: each sentence that names a case at an edge. What a
 * refused call must leave as it was is RefusalsTest's.
 */
public final class TextEdgesTest {
    private static final int BAD = -1, FULL = -3, NONE = -9;
    private static final Checks c = new Checks();

    public static void main(String[] args) {
        looksAreLeftOverByEight();
        numbersOfItems();
        speakersFromTo();
        noisesEachSince();
        mostOfEach();
        itemsAlone();
        everyByte();
        everyWord();
        everyNumber();
        blanks();
        endsTooEarly();
        firstFault();
        longestText();
        typedBytes();
        emptyValley();
        c.end();
    }

    private static void looksAreLeftOverByEight() {
        int[] hours = {0, 1, 7, 8, 9, 15, 16, 22, 23};
        int[] ofMountZero = {0, 7, 1, 0, 7, 1, 0, 2, 1};
        int[] ofMountSeven = {7, 6, 0, 7, 6, 0, 7, 1, 0};
        SkyListeners two = Checks.told("dish 0;dish 7;");
        for (int i = 0; i < hours.length; i++) {
            c.due("mount 0 at " + hours[i], two.looks(0, hours[i]), ofMountZero[i]);
            c.due("mount 7 at " + hours[i], two.looks(1, hours[i]), ofMountSeven[i]);
        }
        for (int mount = 0; mount < 8; mount++) {
            SkyListeners x = Checks.told("dish " + mount + ";");
            for (int h = 0; h < 24; h++) {
                int sum = mount + 8 - h % 8;
                c.due("mount " + mount + " at " + h, x.looks(0, h), sum >= 8 ? sum - 8 : sum);
            }
        }
    }

    private static int valley(String text) {
        SkyListeners x = new SkyListeners();
        Checks.type(x, text);
        c.due("'" + text + "' is typed", x.count(7), text.length());
        return x.valley();
    }

    private static void good(String text, int items) {
        c.due("valley of '" + text + "'", valley(text), items);
    }

    private static void fault(String text, int place) {
        SkyListeners x = Checks.told("dish 5;asker 2 2;");
        x.lend(0, 3, 0);
        x.keep(1);
        Checks.type(x, text);
        c.due("fault of '" + text + "'", x.valley(), -10 - place);
        c.due("fault of '" + text + "' again", x.valley(), -10 - place);
        c.due("text stays, '" + text + "'", x.count(7), text.length());
        c.due("dish stays, '" + text + "'", x.looks(0, 0), 5);
        c.due("asker stays, '" + text + "'", x.asker(0, 1), 2);
        c.due("lending stays, '" + text + "'", x.lent(0, 1), 3);
        c.due("undo stays, '" + text + "'", x.undo(), 0);
        c.due("image stays, '" + text + "'", x.back(1), 1);
    }

    /** Every number 0 .. 99 where the text has #: it stands within the bounds, is a fault beyond. */
    private static void number(String text, int least, int most) {
        int place = text.indexOf('#');
        for (int n = 0; n < 100; n++) {
            String told = text.replace("#", Integer.toString(n));
            if (n >= least && n <= most) {
                good(told, 1);
            } else {
                c.due("fault of '" + told + "'", valley(told), -10 - place);
            }
        }
        for (String wrong : new String[] {"00", "01", "0" + least, "0" + most, "000", "100", "101", "256", "257",
            "999", "65537", "4294967296", "4294967297", "18446744073709551617", "1".repeat(200)}) {
            fault(text.replace("#", wrong), place);
        }
    }

    private static void numbersOfItems() {
        number("dish #;", 0, 7);
        number("speaker # 0 0 0;", 0, 7);
        number("speaker 0 # 0 0;", 0, 9);
        number("speaker 0 0 # 23;", 0, 23);
        number("speaker 0 0 0 #;", 0, 23);
        number("speaker 0 0 23 #;", 23, 23);
        number("speaker 0 0 7 #;", 7, 23);
        number("noise # 1 0;", 0, 9);
        number("noise 0 # 0;", 1, 12);
        number("noise 0 1 #;", 0, 0);
        number("noise 0 2 #;", 0, 1);
        number("noise 0 12 #;", 0, 11);
        number("asker # 1;", 0, 7);
        number("asker 0 #;", 1, 9);
        SkyListeners x = Checks.told("asker 0 1;asker 7 9;");
        c.due("least place", x.asker(0, 0), 0);
        c.due("least sure", x.asker(0, 1), 1);
        c.due("last place", x.asker(1, 0), 7);
        c.due("most sure", x.asker(1, 1), 9);
    }

    private static void speakersFromTo() {
        for (int from = 0; from < 24; from++) {
            for (int to = 0; to < 24; to++) {
                int place = (from + to) % 8;
                int note = (from * 3 + to) % 10;
                String text = "dish 0;speaker " + place + " " + note + " " + from + " " + to + ";";
                if (to < from) {
                    c.due("valley of '" + text + "'", valley(text), -10 - text.lastIndexOf(' ') - 1);
                    continue;
                }
                SkyListeners x = Checks.told(text);
                for (int h = 0; h < 24; h++) {
                    x.turn(0, (place + h) % 8);
                    c.due(text + " at " + h, x.hears(0, h), h >= from && h <= to ? 1 << note : 0);
                    x.turn(0, (place + h + 1) % 8);
                    c.due(text + " at " + h + " elsewhere", x.hears(0, h), 0);
                }
            }
        }
    }

    private static void noisesEachSince() {
        for (int each = 1; each <= 12; each++) {
            for (int since = 0; since <= 12; since++) {
                String text = "noise 9 " + each + " " + since + ";";
                if (since >= each) {
                    fault(text, text.lastIndexOf(' ') + 1);
                    continue;
                }
                SkyListeners x = Checks.told(text + "dish 2;");
                int times = 0;
                for (int h = 0; h < 24; h++) {
                    boolean sounds = h >= since && (h - since) / each * each == h - since;
                    c.due(text + " at " + h, x.hears(0, h), sounds ? 512 : 0);
                    times += sounds ? 1 : 0;
                }
                c.holds(text + " sounds in the day", times >= 2);
            }
        }
        SkyListeners ends = Checks.told("dish 0;noise 0 12 0;noise 1 12 11;noise 2 1 0;");
        c.due("noises at 0", ends.hears(0, 0), 1 | 4);
        c.due("noises at 11", ends.hears(0, 11), 2 | 4);
        c.due("noises at 12", ends.hears(0, 12), 1 | 4);
        c.due("noises at 23", ends.hears(0, 23), 2 | 4);
    }

    private static final String[] ITEMS = {"dish 0;", "speaker 0 0 0 0;", "noise 0 1 0;", "asker 0 1;"};
    private static final int[] MOST = {5, 5, 3, 5};

    private static void mostOfEach() {
        StringBuilder all = new StringBuilder();
        for (int item = 0; item < 4; item++) {
            for (int many = 0; many <= MOST[item]; many++) {
                SkyListeners x = Checks.told(ITEMS[item].repeat(many));
                for (int other = 0; other < 4; other++) {
                    c.due(many + " of " + ITEMS[item] + ": count " + other, x.count(other), other == item ? many : 0);
                }
            }
            all.append(ITEMS[item].repeat(MOST[item]));
        }
        good(all.toString(), 18);
        for (int item = 0; item < 4; item++) {
            // the word is the fault, even where what is behind it can't stand either
            String word = ITEMS[item].substring(0, ITEMS[item].indexOf(' '));
            String most = ITEMS[item].repeat(MOST[item]);
            fault(most + ITEMS[item], most.length());
            fault(most + "  " + ITEMS[item], most.length() + 2);
            fault(most + word, most.length());
            fault(most + word + " 99", most.length());
            fault(most + word + ";", most.length());
            fault(ITEMS[(item + 1) % 4] + most + ITEMS[item], ITEMS[(item + 1) % 4].length() + most.length());
            good(most + ITEMS[(item + 1) % 4], MOST[item] + 1);
            fault(all + ITEMS[item], all.length());
        }
        SkyListeners x = Checks.told("dish 1;dish 2;dish 3;dish 4;dish 5;asker 1 1;asker 2 2;asker 3 3;asker 4 4;asker 5 5;");
        for (int i = 0; i < 5; i++) {
            c.due("dish " + i, x.looks(i, 0), i + 1);
            c.due("asker " + i, x.asker(i, 0), i + 1);
        }
        c.due("no sixth dish", x.looks(5, 0), BAD);
        c.due("no sixth asker", x.asker(5, 0), BAD);
    }

    private static void itemsAlone() {
        good("", 0);
        for (String item : ITEMS) {
            good(item, 1);
            fault(";" + item, 0);
            fault(item + ";", item.length());
            fault(item + " ;" + item, item.length() + 1);
            fault("7" + item, 0);
            fault(item + "7", item.length());
            fault(item.replace(";", " 0;"), item.length());
            fault(item.replace(";", " dish;"), item.length());
            fault(item.replace(";", "dish 1;"), item.length() - 1);
        }
        fault("dish;", 4);
        fault("speaker 0 0 0;", 13);
        fault("speaker 0 0;", 11);
        fault("speaker;", 7);
        fault("noise 0 1;", 9);
        fault("noise;", 5);
        fault("asker 0;", 7);
        fault("asker;", 5);
        fault("asker noise 0 1 0;", 6);
        fault("speaker 0 speaker 0 0 0 0;", 10);
    }

    private static void everyByte() {
        for (int b = 0; b < 256; b++) {
            char sign = (char) b;
            boolean digit = b >= '0' && b <= '9';
            boolean letter = b >= 'a' && b <= 'z';
            if (b == ' ') {
                good(" ", 0);
                good("dish 1 ;", 1);
                continue;
            }
            fault(String.valueOf(sign), 0);
            fault("dish 1;" + sign, 7);
            // ahead of a letter and a digit, where a letter and a digit belong to what is behind them
            fault(sign + "dish 1;", 0);
            fault("dish " + sign + "1;", 5);
            fault("dish" + sign + " 9;", letter ? 0 : digit && b < '8' ? 6 : 4);
            fault("dish 1" + sign + ";", digit ? 5 : b == ';' ? 7 : 6);
            fault("dish 1;  " + sign + "  dish 1;", 9);
        }
    }

    private static void everyWord() {
        for (String item : ITEMS) {
            int end = item.indexOf(' ');
            String word = item.substring(0, end);
            String numbers = item.substring(end);
            for (int i = 0; i < end; i++) {
                for (char sign = 'a'; sign <= 'z'; sign++) {
                    if (sign != word.charAt(i)) {
                        fault(word.substring(0, i) + sign + word.substring(i + 1) + numbers, 0);
                    }
                }
                fault(word.substring(0, i) + word.substring(i + 1) + numbers, 0);
                char upper = (char) (word.charAt(i) - 32);
                fault(word.substring(0, i) + upper + word.substring(i + 1) + numbers, 0);
                // a word that is broken in two is none of these
                if (i > 0) {
                    fault(word.substring(0, i) + " " + word.substring(i) + numbers, 0);
                }
            }
            fault(word + "s" + numbers, 0);
            fault("a" + word + numbers, 0);
            fault(word + word + numbers, 0);
            fault(word + "A" + numbers, end);
            fault("dish 1; x" + item, 8);
            good(word + numbers.substring(1), 1);
        }
        fault("dishnoise 1;", 0);
        fault("z", 0);
        fault("z".repeat(250), 0);
    }

    private static void everyNumber() {
        // a number ends where its digits end; each of these is one token, and its first byte the fault
        fault("dish 10;", 5);
        fault("dish 99;", 5);
        fault("dish 100;", 5);
        fault("dish 0 0;", 7);
        fault("dish 00;", 5);
        fault("dish 07;", 5);
        fault("dish 1 00;", 7);
        fault("dish 1 100;", 7);
        fault("speaker 0 0 00 0;", 12);
        fault("speaker 0 0 0 023;", 14);
        fault("speaker 0 0 023 23;", 12);
        fault("noise 0 012 0;", 8);
        fault("asker 0 01;", 8);
        fault("00", 0);
        fault("100", 0);
        fault("  042;", 2);
        fault("dish 1;00", 7);
        fault("dish 0" + "0".repeat(240), 5);
        fault("dish 4294967297;", 5);
        fault("dish " + "9".repeat(245), 5);
        good("dish 0;", 1);
        good("speaker 0 0 10 23;", 1);
        good("noise 0 10 9;", 1);
    }

    private static void blanks() {
        good(" ", 0);
        good(" ".repeat(250), 0);
        good("dish1;", 1);
        good("dish1;dish2;", 2);
        good("speaker7 9 0 23;noise9 12 11;asker7 9;dish7;", 4);
        good("  dish  1  ;  dish  2  ;  ", 2);
        good("noise   0    1     0      ;", 1);
        good("dish" + " ".repeat(200) + "1" + " ".repeat(30) + ";", 1);
        good(" ".repeat(243) + "dish 7;", 1);
        good("dish 7;" + " ".repeat(243), 1);
        fault("speaker1234;", 7);
        fault("speaker 12 3 4;", 8);
        fault("noise 0 10;", 10);
        fault("noise 010;", 6);
        fault("asker 34;", 6);
        fault("dish\t1;", 4);
        fault("dish\n1;", 4);
        fault("dish 1;\n", 7);
        fault("dish\u00a01;", 4);
        fault("\u0000dish 1;", 0);
        SkyListeners x = Checks.told("  dish5;  asker  3   9 ;");
        c.due("dish by blanks", x.looks(0, 0), 5);
        c.due("asker by blanks", x.asker(0, 0), 3);
        c.due("sure by blanks", x.asker(0, 1), 9);
    }

    private static void endsTooEarly() {
        String[] items = {"dish 7;", "speaker 7 9 23 23;", "noise 9 12 11;", "asker 7 9;"};
        for (String item : items) {
            int word = item.indexOf(' ');
            for (int cut = 1; cut < item.length(); cut++) {
                String start = item.substring(0, cut);
                int place = cut < word ? 0 : cut;
                // a number that is cut may be one that can't stand there
                if (start.endsWith("speaker 7 9 23 2")) {
                    place = 15;
                }
                fault(start, place);
                fault("dish 1; " + start, 8 + place);
                if (place == cut) {
                    fault(start + " ", cut + 1);
                    fault(start + " ".repeat(100), cut + 100);
                    fault(start + " ".repeat(250 - cut), 250);
                }
            }
            good(item, 1);
        }
        // the noise that is cut behind its 1 is read as far as it goes
        fault("noise 9 12 1", 12);
        fault("noise 9 1", 9);
    }

    private static void firstFault() {
        fault("dish 8;dish 9;", 5);
        fault("dish 1;dish 9;#", 12);
        fault("dish 1;#dish 9;", 7);
        fault("fish 8;", 0);
        fault("dish 8", 5);
        fault("dish 1 2 3", 7);
        fault("speaker 8 10 24 25;", 8);
        fault("speaker 7 10 24 25;", 10);
        fault("speaker 7 9 24 25;", 12);
        fault("speaker 7 9 23 22;", 15);
        fault("noise 10 0 0;", 6);
        fault("noise 9 13 13;", 8);
        fault("noise 9 12 12;", 11);
        fault("asker 8 0;", 6);
        fault("asker 7 0;", 8);
        fault("asker 7 10;", 8);
        // ahead of a sixth dish another fault is the first, and the other way round
        fault("dish 0;dish 0;dish 0;dish 8;dish 0;dish 0;", 26);
        fault("dish 0;dish 0;dish 0;dish 0;dish 0;dish 8;x", 35);
    }

    private static void longestText() {
        String most = ITEMS[0].repeat(5) + ITEMS[1].repeat(5) + ITEMS[2].repeat(3) + ITEMS[3].repeat(4);
        String last = "asker 6 8;";
        String text = most + " ".repeat(250 - most.length() - last.length()) + last;
        SkyListeners x = new SkyListeners();
        Checks.type(x, text);
        c.due("250 bytes", x.count(7), 250);
        c.due("one byte more", x.type(' ', 1), FULL);
        c.due("items of 250 bytes", x.valley(), 18);
        c.due("the last of 250 bytes", x.asker(4, 1), 8);
        c.due("the text is empty", x.count(7), 0);
        c.due("and can be typed again", x.type(' ', 1), 1);
        fault(" ".repeat(249) + "x", 249);
        fault(" ".repeat(249) + ";", 249);
        fault(" ".repeat(246) + "dish", 250);
        fault("dish 1" + " ".repeat(244), 250);
    }

    private static void typedBytes() {
        for (int n = 1; n <= 8; n++) {
            SkyListeners x = new SkyListeners();
            for (int many = n; many <= 250; many += n) {
                c.due("type " + n + " by " + n, x.type(0x2020202020202020L, n), many);
            }
            int left = 250 % n;
            c.due("type " + n + " more than fit", x.type(0x2020202020202020L, n), FULL);
            if (left > 0) {
                c.due("type those that fit", x.type(0x2020202020202020L, left), 250);
            }
            c.due("one more", x.type(32, 1), FULL);
            c.due("clear a full text", x.clear(), 250);
            c.due("type after clear", x.type(32, n), n);
        }
        // "dish 3; " by its lowest bytes: what is above them is not taken, the highest of them is first
        long text = 0x6469736820333b20L;
        SkyListeners whole = new SkyListeners();
        c.due("type eight", whole.type(text, 8), 8);
        c.due("valley of eight", whole.valley(), 1);
        c.due("looks of eight", whole.looks(0, 0), 3);
        SkyListeners parts = new SkyListeners();
        c.due("type one", parts.type(0xFFFFFFFFFFFFFF64L, 1), 1);
        c.due("type two", parts.type(0x8000000000006973L, 2), 3);
        c.due("type three", parts.type(0x7777777777682035L, 3), 6);
        c.due("type a last one", parts.type(0x3B3B3B3B3B3B3B3BL, 1), 7);
        c.due("valley of parts", parts.valley(), 1);
        c.due("looks of parts", parts.looks(0, 0), 5);
        for (int n = 1; n <= 8; n++) {
            SkyListeners below = new SkyListeners();
            c.due("a v below 0, " + n, below.type(-1L, n), n);
            c.due("a v below 0 is bytes that begin none", below.valley(), -10);
            SkyListeners least = new SkyListeners();
            c.due("the least v, " + n, least.type(Long.MIN_VALUE, n), n);
            c.due("zero bytes count", least.count(7), n);
            c.due("zero bytes begin none", least.valley(), -10);
        }
        // a byte above 127 in a v below 0: 0xA0 is no blank, 0xBB no ;
        SkyListeners high = new SkyListeners();
        high.type(0xE4E9F3E8A0B1BBA0L, 8);
        c.due("bytes above 127", high.valley(), -10);
        SkyListeners below = new SkyListeners();
        c.due("blanks, then a byte above 127", below.type(0x20202020202020A0L, 8), 8);
        c.due("its place", below.valley(), -17);
        SkyListeners first = new SkyListeners();
        c.due("a v below 0 with a good text behind", first.type(0x806469736820313BL, 7), 7);
        c.due("good without its highest byte", first.valley(), 1);
    }

    private static void emptyValley() {
        SkyListeners x = new SkyListeners();
        c.due("valley of a new object", x.valley(), 0);
        c.due("clear of none", x.clear(), 0);
        c.due("forget of none", x.forget(), 0);
        c.due("trace of none", x.trace(), 0);
        for (int what = 0; what < 8; what++) {
            c.due("count " + what, x.count(what), 0);
        }
        c.due("count beyond", x.count(8), BAD);
        c.due("twice of none", x.twice(0), NONE);
        c.due("in vain of none", x.twice(1), 0);
        c.due("lend of none", x.lend(0, 0, 0), BAD);
        c.due("turn of none", x.turn(0, 0), BAD);
        c.due("must of none", x.must(0, 0, 0), BAD);
        c.due("second of none", x.second(0, 0), BAD);
        c.due("heard by none", x.heard(0, 0, 0, 0), BAD);
        SkyListeners dish = Checks.told("dish 1;");
        c.due("lend to none", dish.lend(0, 0, 0), BAD);
        c.due("asker of none", dish.asker(0, 0), BAD);
        SkyListeners asker = Checks.told("asker 1 1;");
        c.due("lend of no dish", asker.lend(0, 0, 0), BAD);
        c.due("looks of no dish", asker.looks(0, 0), BAD);
    }
}
