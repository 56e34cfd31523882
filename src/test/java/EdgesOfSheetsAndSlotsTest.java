/** The edges that 5 SHEETS in the Terms (T5) names, but for AN IMAGE, and those of promises 29 to 37. */
public final class EdgesOfSheetsAndSlotsTest {
    private static final int LEAST = Integer.MIN_VALUE, MOST = Integer.MAX_VALUE;

    public static void main(String[] args) {
        sheetsAtFirst();
        slotsAtFirst();
        findings();
        sheetBecomes();
        sheetIsMissing();
        sheetIsRefused();
        markShorts();
        markFloats();
        markIsRefused();
        pourIsHeldWithin();
        pourStays();
        pourIsRefused();
        readsTheFirst();
        readsNobody();
        readsIsRefused();
        copyComes();
        copyToTheSame();
        copyIsRefused();
        copyHasNoSuchPlace();
        layHolds();
        layIsForGood();
        layIsRefused();
        askWorth();
        askIsRefused();
        itemOfASheet();
        itemIsRefused();
        restByN();
        restIsRefused();
        Due.end();
    }

    private static void sheetsAtFirst() {
        // T5: "SHEETS 0 .. 3 are rows of shorts (sort 0) or floats (1; whole numbers), with 0 to 24 places, or MISSING (at first)."
        for (int sheet = 0; sheet < 4; sheet++) {
            NoonVows x = new NoonVows();
            Due.is("T5: MISSING at first", x.pour(sheet), NoonVows.NOTHING);
            for (int sort = 0; sort < 2; sort++) {
                Due.is("T5: 0 places", x.sheet(sheet, sort, 0), 0);
                Due.is("T5: no place 0", x.mark(sheet, 0, 1), NoonVows.INDEX);
                Due.is("T5: 24 places", x.sheet(sheet, sort, 24), 24);
                Due.is("T5: the last place", x.mark(sheet, 23, 1), 1);
                Due.is("T5: no place 24", x.mark(sheet, 24, 1), NoonVows.INDEX);
            }
        }
        // T5: "A place of floats may be NO NUMBER."
        NoonVows x = Stories.behind(Stories::busy);
        Due.is("T5: floats", x.mark(1, 0, NoonVows.NONE), 1);
        Due.is("T5: NO NUMBER", Stories.at(x, 1, 0), NoonVows.KIND);
        Due.is("T5: shorts", x.mark(0, 0, NoonVows.NONE), NoonVows.KIND);
    }

    private static void slotsAtFirst() {
        // T5: "SLOTS 0 .. 4 each hold nothing (at first), one of the PEOPLE (as it is then, for good), a SHEET (a row of its own, as it was then), or a number."
        NoonVows x = Stories.behind(Stories.vowers(1));
        x.sheet(0, 0, 1);
        for (int slot = 0; slot < 5; slot++) {
            Due.is("T5: nothing at first", x.lay(slot, 1, 0), 0);
            Due.is("T5: one", x.ask(slot, 0), 50);
            Due.is("T5: held one", x.lay(slot, 2, 0), 1);
            Due.is("T5: a SHEET", x.item(slot, 0), 0);
            Due.is("T5: held a SHEET", x.lay(slot, 3, 100 + slot), 2);
        }
        for (int slot = 0; slot < 5; slot++) {
            Due.is("T5: each its own number", x.rest(slot, 1000), 100 + slot);
            Due.is("T5: held a number", x.lay(slot, 0, 0), 3);
            Due.is("T5: nothing", x.rest(slot, 1000), NoonVows.NOTHING);
        }
    }

    private static void findings() {
        // T5: "FINDINGS: NOTHING: a SHEET is MISSING, a SLOT holds nothing;"
        Refused.by("T5: a SHEET is MISSING", Stories::busy, x -> x.mark(3, 0, 0), NoonVows.NOTHING);
        Refused.by("T5: a SLOT holds nothing", Stories::busy, x -> x.item(0, 0), NoonVows.NOTHING);
        // T5: "INDEX: there is no such place;"
        Refused.by("T5: no such place of a SHEET", Stories::busy, x -> x.mark(2, 0, 0), NoonVows.INDEX);
        Refused.by("T5: no such place in a SLOT", Stories::busy, x -> x.item(2, 4), NoonVows.INDEX);
        // T5: "SIZE: a number of places is below 0;"
        Refused.by("T5: below 0", Stories::busy, x -> x.sheet(0, 0, -1), NoonVows.SIZE);
        // T5: "KIND: it is none (of a KIND, a number, or another thing)."
        Refused.by("T5: none of a KIND", Stories::busy, x -> x.as(0, 1), NoonVows.KIND);
        Refused.by("T5: no number", Stories::busy, x -> x.item(2, 1), NoonVows.KIND);
        Refused.by("T5: another thing", Stories::busy, x -> x.rest(1, 1), NoonVows.KIND);
    }

    private static void sheetBecomes() {
        // 29: "A SHEET becomes a row of n places of a sort, all 0"
        for (int sort = 0; sort < 2; sort++) {
            for (int n : new int[] {0, 1, 23, 24}) {
                NoonVows x = new NoonVows();
                Stories.row(x, 3, 1 - sort, 1, 2, 3);
                Due.is("29: n", x.sheet(3, sort, n), n);
                for (int place = 0; place < n; place++) {
                    Due.is("29: all 0", Stories.at(x, 3, place), 0);
                }
                Due.is("29: no place more", Stories.at(x, 3, n), NoonVows.INDEX);
                Due.is("29: of that sort", x.mark(3, 0, NoonVows.NONE), n == 0 ? NoonVows.INDEX : sort == 0 ? NoonVows.KIND : 1);
            }
        }
        NoonVows x = new NoonVows();
        x.sheet(0, 1, 24);
        for (int k = 0; k < 24; k++) {
            x.mark(0, k, NoonVows.NONE);
        }
        x.sheet(0, 1, 2);
        x.sheet(0, 1, 24);
        for (int k = 0; k < 24; k++) {
            Due.is("29: all 0, though there was NO NUMBER", Stories.at(x, 0, k), 0);
        }
    }

    private static void sheetIsMissing() {
        // 29: "(sort -1: MISSING, n any): n (0)."
        for (int n : new int[] {0, 1, 24, 25, -1, LEAST, MOST}) {
            NoonVows x = Stories.behind(Stories::busy);
            Due.is("29: MISSING answers 0", x.sheet(0, -1, n), 0);
            Due.is("29: is MISSING", x.pour(0), NoonVows.NOTHING);
            Due.is("29: MISSING again", x.sheet(0, -1, n), 0);
            Due.is("29: another one is not", x.pour(1) >= 0 ? 1 : 0, 1);
        }
    }

    private static void sheetIsRefused() {
        // 29: "BAD: sheet, sort, n above 24;"
        Refused.beyond("29: sheet", Stories::busy, 0, 3, (x, v) -> x.sheet(v, 0, 1));
        Refused.beyond("29: sheet, to be MISSING", Stories::busy, 0, 3, (x, v) -> x.sheet(v, -1, 0));
        Refused.beyond("29: sort", Stories::busy, -1, 1, (x, v) -> x.sheet(0, v, 1));
        Refused.by("29: n 25, shorts", Stories::busy, x -> x.sheet(0, 0, 25), NoonVows.BAD);
        Refused.by("29: n 25, floats", Stories::busy, x -> x.sheet(0, 1, 25), NoonVows.BAD);
        Refused.by("29: the greatest n", Stories::busy, x -> x.sheet(0, 0, MOST), NoonVows.BAD);
        // 29: "SIZE."
        Refused.by("29: n -1, shorts", Stories::busy, x -> x.sheet(0, 0, -1), NoonVows.SIZE);
        Refused.by("29: n -1, floats", Stories::busy, x -> x.sheet(3, 1, -1), NoonVows.SIZE);
        Refused.by("29: the least n", Stories::busy, x -> x.sheet(0, 1, LEAST), NoonVows.SIZE);
        Refused.by("29: BAD sheet, ahead of SIZE", Stories::busy, x -> x.sheet(4, 0, -1), NoonVows.BAD);
        Refused.by("29: BAD sheet, ahead of SIZE", Stories::busy, x -> x.sheet(-1, 1, -1), NoonVows.BAD);
        Refused.by("29: BAD sort, ahead of SIZE", Stories::busy, x -> x.sheet(0, 2, -1), NoonVows.BAD);
        Refused.by("29: BAD sort, ahead of SIZE", Stories::busy, x -> x.sheet(0, -2, -1), NoonVows.BAD);
    }

    private static void markShorts() {
        // 30: "A place of a SHEET becomes v (of shorts its lowest 16 bits;"
        int[][] rows = {{0, 0}, {32767, 32767}, {32768, -32768}, {65535, -1}, {65536, 0}, {-32768, -32768}, {-32769, 32767},
            {100000, -31072}, {LEAST, 0}, {MOST, -1}, {NoonVows.NONE + 1, (short) (NoonVows.NONE + 1)},
            {NoonVows.NONE - 1, (short) (NoonVows.NONE - 1)}, {NoonVows.BAD, (short) NoonVows.BAD}};
        for (int[] row : rows) {
            NoonVows x = new NoonVows();
            x.sheet(0, 0, 24);
            for (int place : new int[] {0, 23}) {
                // 30: ": 1."
                Due.is("30: answers 1", x.mark(0, place, row[0]), 1);
                Due.is("30: " + row[0] + " as a short", Stories.at(x, 0, place), row[1]);
            }
            Due.is("30: another place stays", Stories.at(x, 0, 1), 0);
        }
    }

    private static void markFloats() {
        // 30: "of floats v, -99999 .. 99999; NONE: NO NUMBER)"
        NoonVows x = new NoonVows();
        x.sheet(3, 1, 24);
        for (int v : new int[] {0, 1, -1, 32768, 65536, 99998, 99999, -99998, -99999}) {
            Due.is("30: answers 1", x.mark(3, 23, v), 1);
            Due.is("30: as it is", Stories.at(x, 3, 23), v);
        }
        Due.is("30: NO NUMBER", x.mark(3, 23, NoonVows.NONE), 1);
        Due.is("30: NO NUMBER", Stories.at(x, 3, 23), NoonVows.KIND);
        Due.is("30: a number again", x.mark(3, 23, 0), 1);
        Due.is("30: a number again", Stories.at(x, 3, 23), 0);
    }

    private static void markIsRefused() {
        // 30: "BAD: sheet;"
        Refused.beyond("30: sheet", Stories.busyThen(x -> x.sheet(3, 0, 1)), 0, 3, (x, v) -> x.mark(v, 0, 1));
        Refused.by("30: BAD sheet, ahead of all", Stories::busy, x -> x.mark(4, -1, NoonVows.NONE), NoonVows.BAD);
        // 30: "NOTHING;"
        Refused.by("30: MISSING", Stories::busy, x -> x.mark(3, 0, 1), NoonVows.NOTHING);
        Refused.by("30: NOTHING ahead of INDEX", Stories::busy, x -> x.mark(3, -1, 1), NoonVows.NOTHING);
        Refused.by("30: NOTHING ahead of KIND", Stories::busy, x -> x.mark(3, 0, NoonVows.NONE), NoonVows.NOTHING);
        Refused.by("30: NOTHING ahead of BAD v", Stories::busy, x -> x.mark(3, 0, 100000), NoonVows.NOTHING);
        // 30: "INDEX;"
        Refused.beyond("30: place of shorts", Stories::busy, 0, 2, (x, v) -> x.mark(0, v, 1), NoonVows.INDEX);
        Refused.beyond("30: place of floats", Stories::busy, 0, 3, (x, v) -> x.mark(1, v, 1), NoonVows.INDEX);
        Refused.by("30: place of none", Stories::busy, x -> x.mark(2, 0, 1), NoonVows.INDEX);
        Refused.by("30: INDEX ahead of KIND", Stories::busy, x -> x.mark(0, 3, NoonVows.NONE), NoonVows.INDEX);
        Refused.by("30: INDEX ahead of BAD v", Stories::busy, x -> x.mark(1, 4, 100000), NoonVows.INDEX);
        // 30: "KIND: NONE in a row of shorts;"
        Refused.by("30: NONE in shorts", Stories::busy, x -> x.mark(0, 0, NoonVows.NONE), NoonVows.KIND);
        // 30: "BAD: v of floats."
        Refused.beyond("30: v of floats", Stories::busy, -99999, 99999, (x, v) -> x.mark(1, 0, v));
        Refused.by("30: v right ahead of NONE", Stories::busy, x -> x.mark(1, 1, NoonVows.NONE - 1), NoonVows.BAD);
        Refused.by("30: v right behind NONE", Stories::busy, x -> x.mark(1, 1, NoonVows.NONE + 1), NoonVows.BAD);
    }

    private static void pourIsHeldWithin() {
        // 31: "FAITH of PEOPLE, by numbers, becomes the places of a SHEET from 0 on (each held within 0 .. 99;"
        int[][] rows = {{-99999, 0}, {-1, 0}, {0, 0}, {1, 1}, {98, 98}, {99, 99}, {100, 99}, {99999, 99}};
        NoonVows x = Stories.behind(Stories.vowers(10));
        x.sheet(3, 1, 24);
        for (int k = 0; k < 8; k++) {
            x.mark(3, k, rows[k][0]);
        }
        x.mark(3, 8, 50);
        x.mark(3, 9, 77);
        x.mark(3, 10, 88);
        // 31: "how many are otherwise then."
        Due.is("31: all but 8, which had 50", x.pour(3), 9);
        for (int k = 0; k < 8; k++) {
            Due.is("31: " + rows[k][0] + " is held within", x.told(k, 2), rows[k][1]);
        }
        Due.is("31: the last one", x.told(9, 2), 77);
        Due.is("31: nobody comes", x.count(0), 10);
        Due.is("31: none is otherwise", x.pour(3), 0);
        NoonVows y = Stories.behind(Stories.vowers(2));
        Stories.row(y, 0, 0, -32768, 32767);
        Due.is("31: shorts", y.pour(0), 2);
        Due.is("31: the least short", y.told(0, 2), 0);
        Due.is("31: the greatest short", y.told(1, 2), 99);
        Stories.row(y, 0, 0, -1, 100);
        Due.is("31: held within, none is otherwise", y.pour(0), 0);
    }

    private static void pourStays() {
        // 31: "NO NUMBER, and beyond the SHEET: it stays):"
        NoonVows x = Stories.behind(Stories.vowers(3));
        Stories.row(x, 0, 1, NoonVows.NONE, 7);
        Due.is("31: only 1 is otherwise", x.pour(0), 1);
        Due.is("31: NO NUMBER, it stays", x.told(0, 2), 50);
        Due.is("31: a number", x.told(1, 2), 7);
        Due.is("31: beyond the SHEET, it stays", x.told(2, 2), 50);
        x.sheet(0, 0, 0);
        Due.is("31: no places", x.pour(0), 0);
        NoonVows nobody = new NoonVows();
        nobody.sheet(0, 0, 24);
        Due.is("31: no PEOPLE", nobody.pour(0), 0);
    }

    private static void pourIsRefused() {
        // 31: "BAD;"
        Refused.beyond("31: sheet", Stories.busyThen(x -> x.sheet(3, 0, 1)), 0, 3, (x, v) -> x.pour(v));
        // 31: "NOTHING."
        Refused.by("31: MISSING", Stories::busy, x -> x.pour(3), NoonVows.NOTHING);
        Refused.by("31: nothing there yet", Stories::nothing, x -> x.pour(0), NoonVows.NOTHING);
        Refused.by("31: MISSING again", Stories.busyThen(x -> x.sheet(0, -1, 0)), x -> x.pour(0), NoonVows.NOTHING);
    }

    private static void readsTheFirst() {
        // 32: "The first place (of numbers alone) at which a SHEET is not NOON of that one"
        NoonVows x = Stories.behind(Stories.vowers(10));
        x.set(0, 1, 12);
        x.set(9, 1, 11);
        x.sheet(3, 1, 10);
        for (int k = 1; k < 9; k++) {
            x.mark(3, k, 12);
        }
        x.mark(3, 9, 23);
        // 32: "NONE: there is none."
        Due.is("32: NOON 0 of the first, NOON 23 of the last", x.reads(3), NoonVows.NONE);
        for (int v : new int[] {24, -1, 1, -24}) {
            x.mark(3, 0, v);
            Due.is("32: " + v + " is not NOON 0", x.reads(3), 0);
        }
        x.mark(3, 0, NoonVows.NONE);
        Due.is("32: NO NUMBER is passed over", x.reads(3), NoonVows.NONE);
        x.mark(3, 9, 22);
        Due.is("32: the last place", x.reads(3), 9);
        x.mark(3, 4, 13);
        Due.is("32: the first of two", x.reads(3), 4);
        x.turns(4, 1);
        Due.is("32: NOON by the KIND", x.reads(3), 9);
    }

    private static void readsNobody() {
        // 32: "(of places that are nobody all numbers are not)."
        NoonVows x = new NoonVows();
        x.sheet(0, 1, 24);
        Due.is("32: nobody yet, place 0", x.reads(0), 0);
        for (int k = 0; k < 23; k++) {
            x.mark(0, k, NoonVows.NONE);
        }
        Due.is("32: the last place, which can be nobody", x.reads(0), 23);
        x.mark(0, 23, NoonVows.NONE);
        Due.is("32: no numbers", x.reads(0), NoonVows.NONE);
        x.sheet(0, 0, 0);
        Due.is("32: no places", x.reads(0), NoonVows.NONE);
        NoonVows ten = Stories.behind(Stories.vowers(10));
        ten.sheet(0, 0, 11);
        for (int k = 0; k < 11; k++) {
            ten.mark(0, k, 12);
        }
        Due.is("32: the first place that is nobody", ten.reads(0), 10);
    }

    private static void readsIsRefused() {
        // 32: "BAD;"
        Refused.beyond("32: sheet", Stories.busyThen(x -> x.sheet(3, 0, 1)), 0, 3, (x, v) -> x.reads(v));
        // 32: "NOTHING;"
        Refused.by("32: MISSING", Stories::busy, x -> x.reads(3), NoonVows.NOTHING);
        Refused.by("32: nothing there yet", Stories::nothing, x -> x.reads(0), NoonVows.NOTHING);
        Refused.by("32: NONE", Stories::busy, x -> x.reads(2), NoonVows.NONE);
    }

    private static int[] upTo(int many) {
        int[] row = new int[many];
        for (int k = 0; k < many; k++) {
            row[k] = 100 + k;
        }
        return row;
    }

    private static void copyComes() {
        // 33: "So many places of a SHEET come to another one (or the same), as they were: many."
        // 33: "(From a SHEET, its place, to a SHEET, its place.)"
        for (int sort = 0; sort < 2; sort++) {
            NoonVows x = new NoonVows();
            Stories.row(x, 0, sort, upTo(24));
            x.sheet(3, sort, 24);
            Due.is("33: all 24", x.copy(0, 0, 3, 0, 24), 24);
            for (int k = 0; k < 24; k++) {
                Due.is("33: as they were", Stories.at(x, 3, k), 100 + k);
            }
            x.sheet(3, sort, 3);
            Due.is("33: the last of one to the first of another", x.copy(0, 23, 3, 0, 1), 1);
            Due.is("33: the first of one to the last of another", x.copy(0, 0, 3, 2, 1), 1);
            int[] due = {123, 0, 100};
            for (int k = 0; k < 3; k++) {
                Due.is("33: only so many", Stories.at(x, 3, k), due[k]);
            }
            Due.is("33: none", x.copy(0, 0, 3, 0, 0), 0);
            Due.is("33: none, behind the last of both", x.copy(0, 24, 3, 3, 0), 0);
            Due.is("33: nothing came", Stories.at(x, 3, 0), 123);
        }
        NoonVows y = Stories.behind(Stories::busy);
        y.sheet(3, 1, 4);
        y.mark(3, 0, NoonVows.NONE);
        Due.is("33: with a NO NUMBER", y.copy(1, 0, 3, 0, 4), 4);
        Due.is("33: a number over a NO NUMBER", Stories.at(y, 3, 0), 12);
        Due.is("33: a NO NUMBER", Stories.at(y, 3, 1), NoonVows.KIND);
        y.sheet(0, 0, 0);
        Due.is("33: none, of SHEETS without a place", y.copy(0, 0, 2, 0, 0), 0);
    }

    private static void copyToTheSame() {
        // 33: "(or the same), as they were"
        int[][] moves = {{0, 1, 5}, {1, 0, 5}, {0, 0, 6}, {0, 3, 3}, {3, 0, 3}, {0, 5, 1}, {2, 1, 3}, {1, 2, 3}};
        for (int[] move : moves) {
            NoonVows x = new NoonVows();
            Stories.row(x, 0, 0, upTo(6));
            int[] due = upTo(6);
            System.arraycopy(upTo(6), move[0], due, move[1], move[2]);
            Due.is("33: the same", x.copy(0, move[0], 0, move[1], move[2]), move[2]);
            for (int k = 0; k < 6; k++) {
                Due.is("33: as they were, " + move[0] + " to " + move[1], Stories.at(x, 0, k), due[k]);
            }
        }
    }

    private static void copyIsRefused() {
        // 33: "BAD;"
        Refused.beyond("33: from", Stories.busyThen(x -> x.sheet(3, 0, 1)), 0, 3, (x, v) -> x.copy(v, 0, v, 0, 0));
        Refused.beyond("33: from", Stories.busyThen(x -> x.sheet(3, 0, 1)), 0, 3, (x, v) -> x.copy(v, 0, 0, 0, 0));
        Refused.beyond("33: to", Stories.busyThen(x -> x.sheet(3, 0, 1)), 0, 3, (x, v) -> x.copy(0, 0, v, 0, 0));
        Refused.by("33: BAD from, ahead of NOTHING", Stories::busy, x -> x.copy(4, 0, 3, 0, 1), NoonVows.BAD);
        Refused.by("33: BAD to, ahead of NOTHING", Stories::busy, x -> x.copy(3, 0, 4, 0, 1), NoonVows.BAD);
        Refused.by("33: BAD to, ahead of INDEX", Stories::busy, x -> x.copy(0, 9, -1, 0, 1), NoonVows.BAD);
        // 33: "NOTHING;"
        Refused.by("33: from is MISSING", Stories::busy, x -> x.copy(3, 0, 0, 0, 1), NoonVows.NOTHING);
        Refused.by("33: to is MISSING", Stories::busy, x -> x.copy(0, 0, 3, 0, 1), NoonVows.NOTHING);
        Refused.by("33: both are MISSING", Stories::busy, x -> x.copy(3, 0, 3, 0, 0), NoonVows.NOTHING);
        Refused.by("33: from is MISSING, ahead of INDEX", Stories::busy, x -> x.copy(3, 0, 0, 9, 1), NoonVows.NOTHING);
        Refused.by("33: to is MISSING, ahead of INDEX", Stories::busy, x -> x.copy(0, -1, 3, 0, 1), NoonVows.NOTHING);
        // 33: "KIND: they are not of one sort;"
        Refused.by("33: shorts to floats", Stories::busy, x -> x.copy(0, 0, 1, 0, 1), NoonVows.KIND);
        Refused.by("33: floats to shorts", Stories::busy, x -> x.copy(1, 0, 0, 0, 1), NoonVows.KIND);
        Refused.by("33: none of another sort", Stories::busy, x -> x.copy(1, 0, 2, 0, 0), NoonVows.KIND);
        Refused.by("33: KIND ahead of INDEX", Stories::busy, x -> x.copy(0, 9, 1, -1, 1), NoonVows.KIND);
        Refused.by("33: KIND ahead of INDEX, many", Stories::busy, x -> x.copy(0, 0, 1, 0, -1), NoonVows.KIND);
    }

    private static void copyHasNoSuchPlace() {
        // 33: "INDEX."
        Refused.beyond("33: place, one", Stories::busy, 0, 2, (x, v) -> x.copy(0, v, 0, 0, 1), NoonVows.INDEX);
        Refused.beyond("33: at, one", Stories::busy, 0, 2, (x, v) -> x.copy(0, 0, 0, v, 1), NoonVows.INDEX);
        Refused.beyond("33: place, none", Stories::busy, 0, 3, (x, v) -> x.copy(0, v, 0, 0, 0), NoonVows.INDEX);
        Refused.beyond("33: at, none", Stories::busy, 0, 3, (x, v) -> x.copy(0, 0, 0, v, 0), NoonVows.INDEX);
        Refused.beyond("33: many", Stories::busy, 0, 3, (x, v) -> x.copy(0, 0, 0, 0, v), NoonVows.INDEX);
        Refused.beyond("33: many, from place 1", Stories::busy, 0, 2, (x, v) -> x.copy(0, 1, 0, 0, v), NoonVows.INDEX);
        Refused.beyond("33: many, to place 2", Stories::busy, 0, 1, (x, v) -> x.copy(0, 0, 0, 2, v), NoonVows.INDEX);
        Refused.beyond("33: many, behind the last", Stories::busy, 0, 0, (x, v) -> x.copy(0, 3, 0, 3, v), NoonVows.INDEX);
        Refused.by("33: place and many wrap around", Stories::busy, x -> x.copy(0, MOST, 0, 0, MOST), NoonVows.INDEX);
        Refused.by("33: at and many wrap around", Stories::busy, x -> x.copy(0, 0, 0, MOST, MOST), NoonVows.INDEX);
        Refused.by("33: place 2 and many wrap around", Stories::busy, x -> x.copy(0, 2, 0, 2, MOST), NoonVows.INDEX);
        Refused.by("33: many wraps around to 0", Stories::busy, x -> x.copy(0, LEAST, 0, LEAST, LEAST), NoonVows.INDEX);
        Refused.by("33: to one without a place", Stories::busy, x -> x.copy(0, 0, 2, 0, 1), NoonVows.INDEX);
        Refused.by("33: from one without a place", Stories::busy, x -> x.copy(2, 0, 0, 0, 1), NoonVows.INDEX);
    }

    private static void layHolds() {
        // 34: "A SLOT holds: thing 0 nothing, 1 one of number k, 2 SHEET k, 3 the number k: what it held (0 .. 3)."
        int[] ks = {0, 6, 2, NoonVows.NONE};
        for (int was = 0; was < 4; was++) {
            for (int thing = 0; thing < 4; thing++) {
                NoonVows x = Stories.behind(Stories::busy);
                x.lay(4, was, ks[was]);
                Due.is("34: what it held", x.lay(4, thing, ks[thing]), was);
                Due.is("34: what it holds", x.lay(4, 0, 0), thing);
            }
        }
        NoonVows x = new NoonVows();
        for (int k : new int[] {LEAST, MOST, -1}) {
            Due.is("34: nothing, k any", x.lay(0, 0, k), 0);
            Due.is("34: the number, k any", x.lay(1, 3, k), k == LEAST ? 0 : 3);
            Due.is("34: the number", x.rest(1, 1000), k % 1000);
        }
    }

    private static void layIsForGood() {
        // T5: "one of the PEOPLE (as it is then, for good), a SHEET (a row of its own, as it was then)"
        NoonVows x = new NoonVows();
        x.keep();
        x.person(3, 0, 99);
        x.person(0, 0, 0);
        x.lay(0, 1, 0);
        x.set(0, 2, 1);
        Due.is("T5: FAITH as it was", x.ask(0, 3), 210);
        x.turns(0, 2);
        Due.is("T5: KIND as it was", x.ask(0, 3), 210);
        x.back();
        Due.is("T5: though there are no PEOPLE", x.ask(0, 3), 210);
        Stories.row(x, 0, 1, 5, NoonVows.NONE);
        x.lay(1, 2, 0);
        x.mark(0, 0, 6);
        x.mark(0, 1, 6);
        x.lay(2, 2, 0);
        Due.is("T5: the row as it was", x.item(1, 0), 5);
        Due.is("T5: the row as it was", x.item(1, 1), NoonVows.KIND);
        x.sheet(0, 0, 24);
        Due.is("T5: the row as it was", x.item(2, 1), 6);
        Due.is("T5: as many places", x.item(2, 2), NoonVows.INDEX);
        x.sheet(0, -1, 0);
        Due.is("T5: though the SHEET is MISSING", x.item(1, 0), 5);
    }

    private static void layIsRefused() {
        // 34: "BAD: slot, thing, k;"
        Refused.beyond("34: slot", Stories::busy, 0, 4, (x, v) -> x.lay(v, 3, 0));
        Refused.beyond("34: thing", Stories::busy, 0, 3, (x, v) -> x.lay(2, v, 0));
        Refused.beyond("34: one", Stories::busy, 0, 6, (x, v) -> x.lay(2, 1, v));
        Refused.by("34: nobody yet", Stories::nothing, x -> x.lay(0, 1, 0), NoonVows.BAD);
        Refused.beyond("34: SHEET", Stories.busyThen(x -> x.sheet(3, 0, 1)), 0, 3, (x, v) -> x.lay(2, 2, v));
        // 34: "NOTHING: that SHEET is MISSING."
        for (int slot = 0; slot < 5; slot++) {
            int it = slot;
            Refused.by("34: MISSING", Stories::busy, x -> x.lay(it, 2, 3), NoonVows.NOTHING);
        }
        Refused.by("34: nothing there yet", Stories::nothing, x -> x.lay(0, 2, 0), NoonVows.NOTHING);
        Refused.by("34: BAD slot, ahead of NOTHING", Stories::busy, x -> x.lay(5, 2, 3), NoonVows.BAD);
        Refused.by("34: BAD slot, ahead of NOTHING", Stories::busy, x -> x.lay(-1, 2, 3), NoonVows.BAD);
    }

    private static void askWorth() {
        // 35: "WORTH of the one that is in a SLOT, taken for one of a KIND (0 .. 5)."
        int[] least = {0, 6, 99, 12, 94, 1};
        int[] most = {99, 105, 0, 210, -5, 1};
        int[] above = {0, 0, 0, 1, 2, 0};
        for (int kind = 0; kind < 6; kind++) {
            NoonVows x = new NoonVows();
            x.person(kind, 0, 0);
            x.person(kind, 0, 99);
            x.lay(0, 1, 0);
            x.lay(4, 1, 1);
            for (int wanted : new int[] {kind, above[kind], 0}) {
                Due.is("35: FAITH 0, as " + wanted, x.ask(0, wanted), least[kind]);
                Due.is("35: FAITH 99, as " + wanted, x.ask(4, wanted), most[kind]);
            }
        }
    }

    private static void askIsRefused() {
        // 35: "BAD;"
        Refused.beyond("35: slot", Stories.busyThen(Stories::layOneInAll), 0, 4, (x, v) -> x.ask(v, 0));
        Refused.beyond("35: kind", Stories::busy, 0, 5, (x, v) -> x.ask(1, v));
        Refused.by("35: BAD kind, ahead of NOTHING", Stories::busy, x -> x.ask(0, 6), NoonVows.BAD);
        Refused.by("35: BAD kind, ahead of KIND", Stories::busy, x -> x.ask(2, -1), NoonVows.BAD);
        // 35: "NOTHING;"
        Refused.by("35: NOTHING", Stories::busy, x -> x.ask(0, 0), NoonVows.NOTHING);
        Refused.by("35: nothing again", Stories.busyThen(x -> x.lay(1, 0, 0)), x -> x.ask(1, 3), NoonVows.NOTHING);
        // 35: "KIND: it is none of the PEOPLE, or not of that KIND, nor of one under it."
        Refused.by("35: a SHEET", Stories::busy, x -> x.ask(2, 0), NoonVows.KIND);
        Refused.by("35: a number", Stories::busy, x -> x.ask(3, 0), NoonVows.KIND);
        String[] isOf = {"0", "01", "02", "013", "024", "05"};
        for (int one = 0; one < 6; one++) {
            for (int kind = 0; kind < 6; kind++) {
                NoonVows x = Stories.behind(Stories::busy);
                x.lay(1, 1, one);
                boolean is = isOf[one].indexOf('0' + kind) >= 0;
                Due.is("35: " + one + " as " + kind, x.ask(1, kind), is ? x.told(one, 8) : NoonVows.KIND);
            }
        }
    }

    private static void itemOfASheet() {
        // 36: "A place of the SHEET in a SLOT."
        NoonVows x = new NoonVows();
        Stories.row(x, 0, 0, upTo(24));
        x.mark(0, 0, -32768);
        x.mark(0, 23, 32767);
        Stories.row(x, 1, 1, -99999, 99999, 0);
        x.lay(0, 2, 0);
        x.lay(4, 2, 1);
        Due.is("36: the first place, the least short", x.item(0, 0), -32768);
        Due.is("36: the last place, the greatest short", x.item(0, 23), 32767);
        Due.is("36: the least of floats", x.item(4, 0), -99999);
        Due.is("36: the greatest of floats", x.item(4, 1), 99999);
    }

    private static void itemIsRefused() {
        // 36: "BAD: slot;"
        Refused.beyond("36: slot", Stories::busy, 0, 4, (x, v) -> x.item(v, 0));
        // 36: "NOTHING;"
        Refused.by("36: NOTHING", Stories::busy, x -> x.item(0, 0), NoonVows.NOTHING);
        Refused.by("36: NOTHING ahead of INDEX", Stories::busy, x -> x.item(0, -1), NoonVows.NOTHING);
        // 36: "KIND: it is no SHEET;"
        Refused.by("36: one", Stories::busy, x -> x.item(1, 0), NoonVows.KIND);
        Refused.by("36: a number", Stories::busy, x -> x.item(3, 0), NoonVows.KIND);
        Refused.by("36: one, ahead of INDEX", Stories::busy, x -> x.item(1, 24), NoonVows.KIND);
        Refused.by("36: a number, ahead of INDEX", Stories::busy, x -> x.item(3, -1), NoonVows.KIND);
        // 36: "INDEX;"
        Refused.beyond("36: place of shorts", Stories::busy, 0, 2, (x, v) -> x.item(4, v), NoonVows.INDEX);
        Refused.beyond("36: place of floats", Stories::busy, 0, 3, (x, v) -> x.item(2, v), NoonVows.INDEX);
        Refused.by("36: no places", Stories.busyThen(x -> x.lay(0, 2, 2)), x -> x.item(0, 0), NoonVows.INDEX);
        // 36: "KIND: NO NUMBER."
        Refused.by("36: NO NUMBER", Stories::busy, x -> x.item(2, 1), NoonVows.KIND);
    }

    private static void restByN() {
        // 37: "The rest of the number in a SLOT by n."
        int[][] rows = {{17, 5, 2}, {-17, 5, -2}, {17, -5, 2}, {-17, -5, -2}, {0, 5, 0}, {5, 5, 0}, {4, 5, 4}, {7, 1, 0}, {7, -1, 0},
            {LEAST, -1, 0}, {LEAST, 1, 0}, {LEAST, LEAST, 0}, {LEAST, MOST, -1}, {MOST, LEAST, MOST}, {MOST, MOST, 0},
            {NoonVows.NONE, MOST, NoonVows.NONE}, {0, LEAST, 0}};
        for (int[] row : rows) {
            NoonVows x = new NoonVows();
            x.lay(4, 3, row[0]);
            Due.is("37: " + row[0] + " by " + row[1], x.rest(4, row[1]), row[2]);
            Due.is("37: the number stays", x.rest(4, row[1]), row[2]);
        }
    }

    private static void restIsRefused() {
        // 37: "BAD: slot;"
        Refused.beyond("37: slot", Stories::busy, 0, 4, (x, v) -> x.rest(v, 1));
        Refused.by("37: BAD slot, ahead of NO", Stories::busy, x -> x.rest(5, 0), NoonVows.BAD);
        // 37: "NOTHING;"
        Refused.by("37: NOTHING", Stories::busy, x -> x.rest(0, 1), NoonVows.NOTHING);
        Refused.by("37: NOTHING ahead of NO", Stories::busy, x -> x.rest(0, 0), NoonVows.NOTHING);
        // 37: "KIND: it is no number;"
        Refused.by("37: one", Stories::busy, x -> x.rest(1, 1), NoonVows.KIND);
        Refused.by("37: a SHEET", Stories::busy, x -> x.rest(2, 1), NoonVows.KIND);
        Refused.by("37: one, ahead of NO", Stories::busy, x -> x.rest(1, 0), NoonVows.KIND);
        Refused.by("37: a SHEET, ahead of NO", Stories::busy, x -> x.rest(2, 0), NoonVows.KIND);
        // 37: "NO: n is 0."
        Refused.by("37: by 0", Stories::busy, x -> x.rest(3, 0), NoonVows.NO);
        Refused.by("37: 0 by 0", Stories.busyThen(x -> x.lay(3, 3, 0)), x -> x.rest(3, 0), NoonVows.NO);
    }
}
