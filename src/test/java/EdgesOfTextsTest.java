/** The edges that 4 TEXTS in the Terms (T4) names, and those of promises 24 to 28. */
public final class EdgesOfTextsTest {
    private static final int BLANKS = 0x20202020;
    private static final String LEAST = "(0-1024*1024*2048)", MOST = "(1024*1024*2048-1)";

    public static void main(String[] args) {
        fourteenTexts();
        usesUpTheTape();
        keys();
        names();
        namesGive();
        loosestFirst();
        leftToRight();
        numbers();
        wordsAndSigns();
        blanks();
        needsABlank();
        noTextGoesOn();
        theNinthBracket();
        theNinthNot();
        theEndComesTooSoon();
        intsWrap();
        oneOrZero();
        toldLast();
        feedComes();
        feedIsFull();
        trimKeeps();
        trimIsRefused();
        textAnswers();
        textIsFull();
        textToldAnswers();
        textToldIsRefused();
        whyAnswers();
        whyIsRefused();
        Due.end();
    }

    /** The place of the FAULT; -1: it is a TEXT. */
    private static void fault(String promise, String tape, int place) {
        NoonVows x = new NoonVows();
        Due.is(promise + ": " + tape, Tapes.text(x, tape), place < 0 ? 0 : -100 - place);
        Due.is(promise + ": TEXTS by " + tape, x.count(4), place < 0 ? 1 : 0);
        Due.is(promise + ": the tape behind " + tape, x.count(6), 0);
    }

    private static void gives(String promise, String e, int value) {
        NoonVows x = new NoonVows();
        Due.is(promise + ": " + e, Tapes.text(x, "fee " + e), 0);
        Due.is(promise + ": " + e + " gives", x.fee(), value);
    }

    private static void fourteenTexts() {
        // T4: "TEXTS, 14 at most, numbered from 0, from THE TAPE"
        NoonVows x = new NoonVows();
        for (int k = 0; k < 14; k++) {
            Due.is("T4: numbered from 0", Tapes.text(x, k % 2 == 0 ? "fee " + k : "fine " + k), k);
        }
        Due.is("T4: 14 at most", Tapes.text(x, "keep 1"), NoonVows.FULL);
        Due.is("T4: 14", x.count(4), 14);
    }

    private static void usesUpTheTape() {
        // T4: "(96 bytes at most; an act that reads it uses it up, whatever it answers): KEY E."
        NoonVows x = new NoonVows();
        Due.is("T4: 96 bytes", Tapes.text(x, "fee 10" + "+1".repeat(45)), 0);
        Due.is("T4: all are read", x.fee(), 55);
        Due.is("T4: used up by a TEXT", x.count(6), 0);
        Due.is("T4: 96 bytes with a FAULT at the last", Tapes.text(x, "fee 10" + "+1".repeat(44) + "+?"), -195);
        Due.is("T4: used up by a FAULT", x.count(6), 0);
        Due.is("T4: nothing is left to read", x.text(), -100);
        NoonVows full = Stories.behind(Stories::fourteenTexts);
        Due.is("T4: FULL", Tapes.text(full, "fee 1"), NoonVows.FULL);
        Due.is("T4: used up by FULL", full.count(6), 0);
        NoonVows y = new NoonVows();
        Tapes.put(y, "fee 1");
        y.textTold(0, 0);
        y.why(1);
        y.fee();
        Due.is("T4: no other act reads it", y.count(6), 5);
    }

    private static void keys() {
        // T4: "KEY: keep | fee | fine."
        String[] keys = {"keep", "fee", "fine"};
        for (int key = 0; key < 3; key++) {
            NoonVows x = new NoonVows();
            Due.is("T4: a KEY", Tapes.text(x, keys[key] + " 1"), 0);
            Due.is("T4: a KEY", x.textTold(0, 0), key);
            for (int cut = 1; cut < keys[key].length(); cut++) {
                fault("T4", keys[key].substring(0, cut) + " 1", 0);
                fault("T4", keys[key].substring(cut) + " 1", 0);
            }
            fault("T4", keys[key] + "s 1", 0);
            fault("T4", "a" + keys[key] + " 1", 0);
            fault("T4", keys[key].toUpperCase() + " 1", 0);
            fault("T4", keys[key] + " " + keys[key], keys[key].length() + 1);
        }
        fault("T4", "why 1", 0);
        fault("T4", "1", 0);
        fault("T4", "(fee 1)", 0);
        fault("T4", "feep 1", 0);
        fault("T4", "kine 1", 0);
    }

    private static void names() {
        // T4: "NAMES, each one letter:"
        String[] keys = {"keep", "fee", "fine"};
        String[] names = {"fnw", "kl", "pe"};
        for (int key = 0; key < 3; key++) {
            int place = keys[key].length() + 1;
            for (char letter = 'a'; letter <= 'z'; letter++) {
                boolean is = names[key].indexOf(letter) >= 0;
                fault("T4", keys[key] + " " + letter, is ? -1 : place);
                fault("T4", keys[key] + " " + letter + letter, place);
                fault("T4", keys[key] + " 1+" + letter, is ? -1 : place + 2);
            }
        }
        fault("T4", "keep fn", 5);
        fault("T4", "keep fnw", 5);
        fault("T4", "fee kl", 4);
        fault("T4", "fine pe", 5);
        fault("T4", "fee K", 4);
    }

    private static void namesGive() {
        // T4: "of keep f FAITH, n how many VOWS it has given that are there, w WHAT;"
        NoonVows x = Stories.behind(Stories.vowers(3));
        x.set(0, 2, 0);
        x.vow(0, 1, 2);
        x.vow(2, 1, 0);
        x.hours(1);
        x.vow(0, 1, 1);
        x.set(2, 2, 99);
        int[][] due = {{0, 99, 0}, {2, 1, 2}, {2, 0, 1}};
        String[] names = {"f", "n", "w"};
        for (int name = 0; name < 3; name++) {
            Tapes.text(x, "keep " + names[name]);
            for (int vow = 0; vow < 3; vow++) {
                Due.is("T4: " + names[name] + " of VOW " + vow, x.vowOf(vow, 3), due[name][vow]);
            }
        }
        Tapes.text(x, "keep n");
        x.breaks(0);
        Due.is("T4: that are there", x.vowOf(1, 3), 1);
        // T4: "of fee k KEPT, l LAPSED (what fee gives is told by fee(); without a TEXT: LAPSED);"
        Due.is("T4: without a TEXT", x.fee(), 1);
        Tapes.text(x, "fee k");
        Due.is("T4: none KEPT", x.fee(), 0);
        Tapes.text(x, "keep 100");
        x.hours(11);
        Due.is("T4: k", x.fee(), 2);
        Tapes.text(x, "fee l");
        Due.is("T4: l", x.fee(), 1);
        // T4: "of fine p PURSE, e EAST (what fine gives for one is told by fine(); without a TEXT: PURSE)."
        x.set(1, 3, -9999);
        x.set(1, 1, 23);
        Due.is("T4: without a TEXT", x.fine(1), -9999);
        Tapes.text(x, "fine p");
        Due.is("T4: p", x.fine(1), -9999);
        Tapes.text(x, "fine e");
        Due.is("T4: e", x.fine(1), 23);
    }

    private static void loosestFirst() {
        // T4: "E, the loosest first: OR: AND { | AND }; AND: TEST { & TEST }; TEST: SUM [ (< | = | >) SUM ]; SUM: TERM { (+ | -) TERM }; TERM: PIECE { (* | /) PIECE };"
        gives("T4", "1|1&0", 1);
        gives("T4", "0&1|1", 1);
        gives("T4", "(1|1)&0", 0);
        gives("T4", "2&1=1", 1);
        gives("T4", "(2&1)=2", 0);
        gives("T4", "0=2&0", 0);
        gives("T4", "0=(2&0)", 1);
        gives("T4", "1+1=2", 1);
        gives("T4", "1+(1=2)", 1);
        gives("T4", "3>1+1", 1);
        gives("T4", "1+2*3", 7);
        gives("T4", "7-6/3", 5);
        gives("T4", "2*3-1", 5);
        gives("T4", "!1+1", 1);
        gives("T4", "!0*5", 5);
        gives("T4", "!1=0", 1);
        gives("T4", "!(1=0)", 1);
        gives("T4", "2*!0", 2);
        gives("T4", "1<2|3<2", 1);
        fault("T4", "fee 1<2<3", 7);
        fault("T4", "fee 1=2=3", 7);
        fault("T4", "fee 1>2>3", 7);
        fault("T4", "fee 1<2=3", 7);
        fault("T4", "fee 1<2+3>4", 9);
        fault("T4", "fee 1<2&3<4|5<6", -1);
        fault("T4", "fee (1<2)<(3<4)", -1);
    }

    private static void leftToRight() {
        // T4: "SUM: TERM { (+ | -) TERM }; TERM: PIECE { (* | /) PIECE };"
        gives("T4", "10-3-2", 5);
        gives("T4", "10-3+2", 9);
        gives("T4", "10+3-2", 11);
        gives("T4", "100/7/2", 7);
        gives("T4", "7/2*2", 6);
        gives("T4", "7*2/4", 3);
        gives("T4", "1|0|0", 1);
        gives("T4", "0|0|1", 1);
        gives("T4", "1&1&0", 0);
        gives("T4", "1&1&1", 1);
    }

    private static void numbers() {
        // T4: "PIECE: NUMBER (1 to 4 digits) | NAME | ! PIECE | ( E )."
        String[] taken = {"0", "9", "00", "99", "000", "999", "0000", "0001", "9999"};
        for (String number : taken) {
            gives("T4", number, Integer.parseInt(number));
            gives("T4", "!(" + number + ")", Integer.parseInt(number) == 0 ? 1 : 0);
        }
        // T4: "a NUMBER of more than 4 digits,"
        fault("T4", "fee 10000", 4);
        fault("T4", "fee 00000", 4);
        fault("T4", "fee 99999999999999999999", 4);
        fault("T4", "fee 1+ 12345", 7);
        fault("T4", "fee (12345)", 5);
        fault("T4", "fee 1234 5", 9);
        fault("T4", "fee " + "1".repeat(92), 4);
        fault("T4", "fee -1", 4);
        fault("T4", "fee +1", 4);
        fault("T4", "fee 1-+1", 6);
    }

    private static boolean isLetter(int b) {
        return b >= 'a' && b <= 'z';
    }

    private static boolean isDigit(int b) {
        return b >= '0' && b <= '9';
    }

    /** Each of the 256 bytes: first of all, where a PIECE is due, and between two NAMES. */
    private static void wordsAndSigns() {
        // T4: "A word is a row of letters a .. z, or of digits, as long as it goes; any other byte is a sign by itself."
        for (int b = 0; b < 256; b++) {
            char sign = (char) b;
            fault("T4", sign + "ee k", b == 'f' ? -1 : b == ' ' ? 1 : 0);
            boolean isPiece = isDigit(b) || b == 'k' || b == 'l';
            boolean needsMore = b == ' ' || b == '(' || b == '!';
            fault("T4", "fee " + sign, isPiece ? -1 : needsMore ? 5 : 4);
            boolean joins = "|&<=>+-*/".indexOf(sign) >= 0;
            fault("T4", "fee k" + sign + "k", joins ? -1 : isLetter(b) ? 4 : b == ' ' ? 6 : 5);
            fault("T4", "fee 1" + sign + "1", joins || isDigit(b) ? -1 : b == ' ' ? 6 : 5);
            fault("T4", "fee (k" + sign, b == ')' ? -1 : b == ' ' || joins ? 7 : isLetter(b) ? 5 : 6);
        }
        fault("T4", "fee k<=l", 6);
        fault("T4", "fee k&&l", 6);
        fault("T4", "fee k!=l", 5);
    }

    private static void blanks() {
        // T4: "Between words and signs, and at the ends, there may be blanks (byte 32);"
        fault("T4", "fee k+l", -1);
        fault("T4", "  fee  k  +  l  ", -1);
        fault("T4", " fee ( ! ( k ) ) ", -1);
        fault("T4", "fee(k)", -1);
        fault("T4", "fee!k", -1);
        fault("T4", "fee k" + " ".repeat(91), -1);
        fault("T4", " ".repeat(91) + "fee k", -1);
        fault("T4", "fee" + " ".repeat(92) + "k", -1);
        fault("T4", " ".repeat(92) + "fee ", 96);
        fault("T4", "f ee k", 0);
        fault("T4", "fee 1 2", 6);
        fault("T4", "fee k l", 6);
        fault("T4", "fee\tk", 3);
        fault("T4", "fee\nk", 3);
        fault("T4", "fee" + (char) 160 + "k", 3);
    }

    private static void needsABlank() {
        // T4: "a word right behind another one needs one."
        // T4: "(a word that needs a blank ahead of it,"
        fault("T4", "fee1", 3);
        fault("T4", "fee 1k", 5);
        fault("T4", "fee k1", 5);
        fault("T4", "fee12345", 3);
        fault("T4", "fee 1+2k", 7);
        fault("T4", "feek", 0);
        fault("T4", "1fee 1", 0);
        fault("T4", "fee 1+k", -1);
    }

    private static void noTextGoesOn() {
        // T4: "FAULT: the first byte of the first word or sign with which no TEXT goes on"
        fault("T4", "fee )", 4);
        fault("T4", "fee k)", 5);
        fault("T4", "fee (k))", 7);
        fault("T4", "fee ()", 5);
        fault("T4", "fee k(l)", 5);
        fault("T4", "fee (k)(l)", 7);
        fault("T4", "fee (k)l", 7);
        fault("T4", "fee (k)1", 7);
        fault("T4", "fee k!l", 5);
        fault("T4", "fee k!", 5);
        fault("T4", "fee !)", 5);
        fault("T4", "fee *k", 4);
        fault("T4", "fee k**l", 6);
        fault("T4", "fee k  ??", 7);
        fault("T4", "fee k + lll", 8);
        fault("T4", "? fee ?", 0);
        fault("T4", "fee 1 + ? + 12345", 8);
        fault("T4", "fee 12345 ?", 4);
    }

    private static String eight(String sign) {
        return sign.repeat(8);
    }

    private static void theNinthBracket() {
        // T4: "the ninth ( that would be open within others,"
        fault("T4", "fee " + eight("(") + "1" + eight(")"), -1);
        fault("T4", "fee " + eight("(") + "(1)" + eight(")"), 12);
        fault("T4", "fee " + eight("( ") + "( 1", 20);
        fault("T4", "fee " + eight("(") + "1" + eight(")") + "+" + eight("(") + "1" + eight(")"), -1);
        fault("T4", "fee " + eight("(") + "1)+(1" + eight(")"), -1);
        fault("T4", "fee " + eight("(") + "1)+((1)" + eight(")"), 16);
        fault("T4", "fee " + eight("(1+") + "1" + eight(")"), -1);
        fault("T4", "fee " + eight("(1+") + "(1" + eight(")"), 28);
        fault("T4", "fee " + eight("(") + "!1" + eight(")"), -1);
        gives("T4", eight("(1+") + "1" + eight(")"), 9);
        gives("T4", eight("!(") + "1" + eight(")"), 1);
    }

    private static void theNinthNot() {
        // T4: "the ninth ! likewise, each by itself);"
        fault("T4", "fee " + eight("!") + "1", -1);
        fault("T4", "fee " + eight("!") + "!1", 12);
        fault("T4", "fee " + eight("! ") + "! 1", 20);
        fault("T4", "fee " + eight("!") + "1+" + eight("!") + "1", -1);
        fault("T4", "fee " + eight("!") + "(1)", -1);
        fault("T4", "fee " + eight("!") + eight("(") + "1" + eight(")"), -1);
        fault("T4", "fee " + eight("(") + eight("!") + "1" + eight(")"), -1);
        fault("T4", "fee " + eight("(") + eight("!") + "!1" + eight(")"), 20);
        fault("T4", "fee " + eight("!") + eight("(") + "(1" + eight(")"), 20);
        fault("T4", "fee " + eight("!(") + "1" + eight(")"), -1);
        fault("T4", "fee " + eight("!(") + "!1" + eight(")"), 20);
        fault("T4", "fee " + eight("!(") + "(1" + eight(")"), 20);
        fault("T4", "fee !(" + "!".repeat(7) + "1+" + "!".repeat(7) + "1)", -1);
        fault("T4", "fee !(" + "!".repeat(7) + "1+" + eight("!") + "1)", 22);
        fault("T4", "fee !(1)+" + eight("!") + "1", -1);
        gives("T4", eight("!") + "5", 1);
        gives("T4", "!".repeat(7) + "5", 0);
    }

    private static void theEndComesTooSoon() {
        // T4: "the end (the place behind the last byte), if it comes too soon."
        String[] tapes = {"", " ", " ".repeat(96), "fee", "fee ", "keep", "fine  ", "fee (", "fee !", "fee k+", "fee k + ",
            "fee (k", "fee (k ", "fee ((k)", "fee k|", "fee k&", "fee k<", "fee k=", "fee k>", "fee k-", "fee k*", "fee k/",
            "fee " + eight("(") + "1" + ")".repeat(7), "fee " + eight("!"), "fee 10" + "+1".repeat(44) + "+ "};
        for (String tape : tapes) {
            fault("T4", tape, tape.length());
        }
    }

    private static void intsWrap() {
        // T4: "Ints wrap;"
        gives("T4", LEAST, Integer.MIN_VALUE);
        gives("T4", MOST, Integer.MAX_VALUE);
        gives("T4", MOST + "+1", Integer.MIN_VALUE);
        gives("T4", LEAST + "-1", Integer.MAX_VALUE);
        gives("T4", LEAST + "*(0-1)", Integer.MIN_VALUE);
        gives("T4", LEAST + "/(0-1)", Integer.MIN_VALUE);
        gives("T4", "0-" + LEAST, Integer.MIN_VALUE);
        gives("T4", MOST + "*2", -2);
        gives("T4", MOST + "*" + MOST, 1);
        gives("T4", LEAST + "*" + LEAST, 0);
        gives("T4", MOST + "+1<0", 1);
        gives("T4", LEAST + "<" + MOST, 1);
        gives("T4", LEAST + ">" + MOST, 0);
        gives("T4", "9999*9999*9999", 9999 * 9999 * 9999);
        // T4: "/ is 0 by 0;"
        gives("T4", "0/0", 0);
        gives("T4", "1/0", 0);
        gives("T4", "(0-1)/0", 0);
        gives("T4", LEAST + "/0", 0);
        gives("T4", "5/(3-3)*7+1", 1);
        gives("T4", "0/5", 0);
        gives("T4", "1/1", 1);
    }

    private static void oneOrZero() {
        // T4: "tests, & | ! give 1 or 0 (what is not 0 is true; both sides are worked out)."
        String[] texts = {"0", "1", "5", "(0-1)", LEAST, MOST};
        int[] values = {0, 1, 5, -1, Integer.MIN_VALUE, Integer.MAX_VALUE};
        for (int a = 0; a < 6; a++) {
            gives("T4", "!" + texts[a], values[a] == 0 ? 1 : 0);
            gives("T4", "!!" + texts[a], values[a] == 0 ? 0 : 1);
            for (int b = 0; b < 6; b++) {
                boolean left = values[a] != 0;
                boolean right = values[b] != 0;
                gives("T4", texts[a] + "&" + texts[b], left && right ? 1 : 0);
                gives("T4", texts[a] + "|" + texts[b], left || right ? 1 : 0);
                gives("T4", texts[a] + "<" + texts[b], values[a] < values[b] ? 1 : 0);
                gives("T4", texts[a] + "=" + texts[b], values[a] == values[b] ? 1 : 0);
                gives("T4", texts[a] + ">" + texts[b], values[a] > values[b] ? 1 : 0);
            }
        }
        gives("T4", "0&1/0", 0);
        gives("T4", "1|1/0", 1);
    }

    private static void toldLast() {
        // T4: "Of a KEY that TEXT counts that was told last."
        NoonVows x = new NoonVows();
        Tapes.text(x, "fee 1");
        Tapes.text(x, "fee 2");
        Due.is("T4: the last", x.fee(), 2);
        Tapes.text(x, "fine 3");
        Due.is("T4: one of another KEY does not count", x.fee(), 2);
        Tapes.text(x, "fee 4 ?");
        Due.is("T4: one with a FAULT does not count", x.fee(), 2);
        Tapes.text(x, "fee 1");
        Due.is("T4: the last, as the first was", x.fee(), 1);
        Due.is("T4: its number", x.why(1), 3);
        NoonVows full = Stories.behind(Stories::fourteenTexts);
        Due.is("T4: the 14th", full.fee(), 33);
        Tapes.text(full, "fee 99");
        Due.is("T4: one that was refused as FULL does not count", full.fee(), 33);
    }

    private static void feedComes() {
        // 24: "Twelve bytes come to THE TAPE, the highest of each number first: how many it has."
        NoonVows x = new NoonVows();
        for (int k = 1; k <= 8; k++) {
            Due.is("24: how many it has", x.feed(BLANKS, BLANKS, BLANKS), 12 * k);
            Due.is("24: how many it has", x.count(6), 12 * k);
        }
        NoonVows y = new NoonVows();
        y.feed(0x66656520, 0x312b322b, 0x332b3420);
        Due.is("24: fee 1+2+3+4", y.text(), 0);
        Due.is("24: by numbers, the highest byte first", y.fee(), 10);
        int[][] faults = {{0, BLANKS, BLANKS, 0}, {0x20202000, BLANKS, BLANKS, 3}, {BLANKS, 0x20ff2020, BLANKS, 5},
            {BLANKS, BLANKS, 0x80202020, 8}, {BLANKS, BLANKS, 0x202020ff, 11}, {BLANKS, BLANKS, BLANKS, 12}, {-1, -1, -1, 0}};
        for (int[] row : faults) {
            NoonVows z = new NoonVows();
            z.feed(row[0], row[1], row[2]);
            Due.is("24: the place of a byte that no TEXT has", z.text(), -100 - row[3]);
        }
    }

    private static void blankTape(NoonVows x, int many) {
        Stories.busy(x);
        Tapes.put(x, "fee 7*k" + " ".repeat(many - 7));
    }

    private static void feedIsFull() {
        // 24: "FULL: it would have more than 96."
        for (int many = 85; many <= 96; many++) {
            int it = many;
            Refused.by("24: FULL with " + many, x -> blankTape(x, it), x -> x.feed(0, 0, 0), NoonVows.FULL);
        }
        NoonVows x = new NoonVows();
        blankTape(x, 84);
        Due.is("24: 96 are not more", x.feed(BLANKS, BLANKS, BLANKS), 96);
        Due.is("24: all 96 are read", x.text(), 3);
        Due.is("24: room again behind text", x.feed(0, 0, 0), 12);
    }

    private static void trimKeeps() {
        // 25: "THE TAPE keeps its first n bytes: n."
        NoonVows x = new NoonVows();
        Due.is("25: nothing there yet", x.trim(0), 0);
        Tapes.put(x, "fee 1234+k");
        Due.is("25: all", x.trim(10), 10);
        Due.is("25: some", x.trim(6), 6);
        Due.is("25: how many it has", x.count(6), 6);
        x.feed(0x2b352020, BLANKS, BLANKS);
        Due.is("25: what comes then stands behind the first 6", x.text(), 0);
        Due.is("25: 12+5", x.fee(), 17);
        Tapes.put(x, "fee 1");
        Due.is("25: none", x.trim(0), 0);
        Due.is("25: none", x.text(), -100);
        NoonVows full = new NoonVows();
        blankTape(full, 96);
        Due.is("25: all 96", full.trim(96), 96);
        Due.is("25: 95", full.trim(95), 95);
    }

    private static void trimIsRefused() {
        // 25: "BAD."
        Refused.beyond("25: n", Stories::busy, 0, 7, (x, v) -> x.trim(v));
        Refused.beyond("25: n, nothing there yet", Stories::nothing, 0, 0, (x, v) -> x.trim(v));
        Refused.beyond("25: n, 96 bytes", x -> blankTape(x, 96), 0, 96, (x, v) -> x.trim(v));
    }

    private static void textAnswers() {
        // 26: "THE TAPE is a TEXT: its number."
        NoonVows x = new NoonVows();
        Due.is("26: the first", Tapes.text(x, "fine 1"), 0);
        Due.is("26: the next", Tapes.text(x, "fine 1"), 1);
        // 26: "-100 less the place of its FAULT;"
        Due.is("26: the least place", Tapes.text(x, "?"), -100);
        Due.is("26: a place", Tapes.text(x, "fee ?"), -104);
        Due.is("26: the place of the 96th byte", Tapes.text(x, "fee k" + " ".repeat(90) + "?"), -195);
        Due.is("26: the greatest place, behind 96 bytes", Tapes.text(x, "fee k+" + " ".repeat(90)), -196);
        Due.is("26: nothing there", x.text(), -100);
        Due.is("26: a FAULT is no TEXT", x.count(4), 2);
        Whole.alike("26: a FAULT changes nothing but the tape", Stories.busyThen(y -> Tapes.text(y, "keep 1*(f")), Stories.busyThen(y -> y.trim(0)));
        String[] faulties = {"fee 7+8*(9-1", "fee !!!7?", "fee 7-7-7?", "fee kk", "fee 12345", "fee", "keep 5+"};
        for (String faulty : faulties) {
            Whole.alike("26: " + faulty + " leaves nothing to the next", y -> faultThenText(y, faulty, "fee k-5"), y -> faultThenText(y, "?", "fee k-5"));
            Whole.alike("26: " + faulty + " leaves nothing to the next", y -> faultThenText(y, faulty, "fee 3"), y -> faultThenText(y, "?", "fee 3"));
        }
    }

    private static void faultThenText(NoonVows x, String faulty, String text) {
        Stories.busy(x);
        Tapes.text(x, faulty);
        Due.is("26: a TEXT behind " + faulty, Tapes.text(x, text), 3);
    }

    private static void textIsFull() {
        // 26: "FULL."
        Whole.alike("26: FULL changes nothing but the tape", x -> fullThen(x, "keep 3"), x -> fullThen(x, ""));
        NoonVows x = Stories.behind(Stories::fourteenTexts);
        Due.is("26: FULL", Tapes.text(x, "keep 3"), NoonVows.FULL);
        Due.is("26: a FAULT, ahead of FULL", Tapes.text(x, "keep ?"), -105);
        Due.is("26: nothing there, ahead of FULL", x.text(), -100);
        NoonVows y = new NoonVows();
        y.keep();
        Stories.fourteenTexts(y);
        y.back();
        Due.is("26: room again behind back", Tapes.text(y, "fee 1"), 0);
    }

    private static void fullThen(NoonVows x, String tape) {
        Stories.fourteenTexts(x);
        x.vow(0, 1, 0);
        Tapes.text(x, tape);
    }

    private static void textToldAnswers() {
        // 27: "Of a TEXT: what 0 KEY (0 keep, 1 fee, 2 fine), 1 how many NUMBERS and NAMES it has."
        NoonVows x = new NoonVows();
        String[] tapes = {"keep f", "fee 10" + "+1".repeat(45), "fine !(p+e)*p", "fee 9999", "keep (((1)))"};
        int[] keys = {0, 1, 2, 1, 0};
        int[] many = {1, 46, 3, 1, 1};
        for (String tape : tapes) {
            Tapes.text(x, tape);
        }
        for (int text = 0; text < 5; text++) {
            Due.is("27: KEY of " + tapes[text], x.textTold(text, 0), keys[text]);
            Due.is("27: NUMBERS and NAMES of " + tapes[text], x.textTold(text, 1), many[text]);
        }
    }

    private static void textToldIsRefused() {
        // 27: "BAD."
        Refused.beyond("27: text", Stories::busy, 0, 2, (x, v) -> x.textTold(v, 0));
        Refused.beyond("27: text of 14", Stories::fourteenTexts, 0, 13, (x, v) -> x.textTold(v, 1));
        Refused.beyond("27: what", Stories::busy, 0, 1, (x, v) -> x.textTold(0, v));
        Refused.by("27: nothing there yet", Stories::nothing, x -> x.textTold(0, 0), NoonVows.BAD);
        Refused.by("27: gone by back", Stories.busyThen(x -> x.back()), x -> x.textTold(2, 0), NoonVows.BAD);
    }

    private static void whyAnswers() {
        // 28: "The TEXT that counts for a KEY."
        NoonVows x = new NoonVows();
        for (int k = 0; k < 14; k++) {
            Tapes.text(x, new String[] {"keep 1", "fee 1", "fine 1"}[k % 3]);
            Due.is("28: the last", x.why(k % 3), k);
        }
        Due.is("28: of each KEY", x.why(0), 12);
        Due.is("28: of each KEY", x.why(1), 13);
        Due.is("28: of each KEY", x.why(2), 11);
    }

    private static void whyIsRefused() {
        // 28: "BAD;"
        Refused.beyond("28: key", Stories::busy, 0, 2, (x, v) -> x.why(v));
        // 28: "NONE."
        for (int key = 0; key < 3; key++) {
            int it = key;
            Refused.by("28: none yet", Stories::nothing, x -> x.why(it), NoonVows.NONE);
        }
        Refused.by("28: none of that KEY", Stories::fourteenTexts, x -> x.why(0), NoonVows.NONE);
        Refused.by("28: gone by back", Stories.busyThen(x -> x.back()), x -> x.why(2), NoonVows.NONE);
        Refused.by("28: BAD ahead of NONE", Stories::nothing, x -> x.why(3), NoonVows.BAD);
    }
}
