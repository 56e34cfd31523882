/** Promises 29 to 37. */
public final class SheetsAndSlotsTest {
    public static void main(String[] args) {
        sheet();
        markShorts();
        markFloats();
        pour();
        reads();
        copy();
        copyWithin();
        lay();
        ask();
        item();
        rest();
        Due.end();
    }

    private static void sheet() {
        NoonVows x = new NoonVows();
        Due.is("29: n", x.sheet(0, 0, 24), 24);
        Due.is("29: n", x.sheet(1, 1, 0), 0);
        Due.is("29: sheet", x.sheet(4, 0, 1), NoonVows.BAD);
        Due.is("29: sheet", x.sheet(-1, -1, 1), NoonVows.BAD);
        Due.is("29: sort", x.sheet(0, 2, 1), NoonVows.BAD);
        Due.is("29: sort", x.sheet(0, -2, 1), NoonVows.BAD);
        Due.is("29: n", x.sheet(0, 0, 25), NoonVows.BAD);
        Due.is("29: SIZE", x.sheet(0, 1, -1), NoonVows.SIZE);
        Due.is("29: BAD is ahead of SIZE", x.sheet(0, 2, -1), NoonVows.BAD);
        x.mark(0, 23, 5);
        Due.is("29: it is there still", Stories.at(x, 0, 23), 5);
        x.sheet(0, 0, 24);
        Due.is("29: all 0", Stories.at(x, 0, 23), 0);
        x.mark(0, 0, 5);
        x.sheet(0, 0, 1);
        Due.is("29: all 0", Stories.at(x, 0, 0), 0);
        Due.is("29: the last SHEET", x.sheet(3, 0, 1), 1);
        Due.is("30: the last SHEET", x.mark(3, 0, 6), 1);
        Due.is("34: the last SHEET", x.lay(0, 2, 3), 0);
        Due.is("36: the last SHEET", x.item(0, 0), 6);
        Due.is("32: the last SHEET", x.reads(3), 0);
        Due.is("31: the last SHEET", x.pour(3), 0);
        Due.is("29: MISSING, n any", x.sheet(0, -1, -9), 0);
        Due.is("29: is MISSING", x.pour(0), NoonVows.NOTHING);
        Due.is("29: MISSING, n any", x.sheet(0, -1, 99), 0);
    }

    private static void markShorts() {
        NoonVows x = new NoonVows();
        Due.is("30: NOTHING", x.mark(0, 0, 0), NoonVows.NOTHING);
        Due.is("30: sheet", x.mark(4, 0, 0), NoonVows.BAD);
        Due.is("30: sheet", x.mark(-1, 0, 0), NoonVows.BAD);
        x.sheet(0, 0, 2);
        Due.is("30: INDEX", x.mark(0, 2, 0), NoonVows.INDEX);
        Due.is("30: INDEX is ahead of KIND", x.mark(0, -1, NoonVows.NONE), NoonVows.INDEX);
        Due.is("30: KIND", x.mark(0, 0, NoonVows.NONE), NoonVows.KIND);
        Due.is("30: shorts", x.mark(0, 0, 0x12348765), 1);
        Due.is("30: the lowest 16 bits", Stories.at(x, 0, 0), (short) 0x8765);
        Due.is("30: shorts", x.mark(0, 1, -32769), 1);
        Due.is("30: the lowest 16 bits", Stories.at(x, 0, 1), 32767);
    }

    private static void markFloats() {
        NoonVows x = new NoonVows();
        x.sheet(0, 1, 2);
        Due.is("30: floats", x.mark(0, 0, 99999), 1);
        Due.is("30: floats", x.mark(0, 1, -99999), 1);
        Due.is("30: too much", x.mark(0, 0, 100000), NoonVows.BAD);
        Due.is("30: too little", x.mark(0, 1, -100000), NoonVows.BAD);
        Due.is("30: INDEX is ahead", x.mark(0, 2, 100000), NoonVows.INDEX);
        Due.is("30: it stays", Stories.at(x, 0, 0), 99999);
        Due.is("30: it stays", Stories.at(x, 0, 1), -99999);
        Due.is("30: NO NUMBER", x.mark(0, 1, NoonVows.NONE), 1);
        Due.is("36: NO NUMBER", Stories.at(x, 0, 1), NoonVows.KIND);
    }

    private static NoonVows three() {
        NoonVows x = new NoonVows();
        for (int k = 0; k < 3; k++) {
            x.person(k, k, 50 + k);
        }
        return x;
    }

    private static void pour() {
        NoonVows x = three();
        Due.is("31: sheet", x.pour(4), NoonVows.BAD);
        Due.is("31: sheet", x.pour(-1), NoonVows.BAD);
        Due.is("31: NOTHING", x.pour(0), NoonVows.NOTHING);
        Stories.row(x, 0, 1, 50, NoonVows.NONE, 200, 7);
        Due.is("31: only 2 is otherwise", x.pour(0), 1);
        Due.is("31: the same", x.told(0, 2), 50);
        Due.is("31: NO NUMBER", x.told(1, 2), 51);
        Due.is("31: held within", x.told(2, 2), 99);
        Stories.row(x, 1, 0, -3);
        Due.is("31: shorts", x.pour(1), 1);
        Due.is("31: held within", x.told(0, 2), 0);
        Due.is("31: beyond the SHEET", x.told(1, 2), 51);
        Stories.row(x, 1, 0);
        Due.is("31: no places", x.pour(1), 0);
    }

    private static void reads() {
        NoonVows x = three();
        Due.is("32: sheet", x.reads(4), NoonVows.BAD);
        Due.is("32: sheet", x.reads(-1), NoonVows.BAD);
        Due.is("32: NOTHING", x.reads(0), NoonVows.NOTHING);
        Stories.row(x, 0, 1, 12, 14, 14);
        Due.is("32: all are", x.reads(0), NoonVows.NONE);
        x.mark(0, 2, 13);
        Due.is("32: the third is not", x.reads(0), 2);
        x.mark(0, 0, 0);
        Due.is("32: the first is not", x.reads(0), 0);
        x.mark(0, 0, 12);
        x.mark(0, 1, 13);
        Due.is("32: the first of two", x.reads(0), 1);
        x.mark(0, 1, NoonVows.NONE);
        Due.is("32: of numbers alone", x.reads(0), 2);
        Stories.row(x, 0, 1, 12, 14, 14, NoonVows.NONE, 12);
        Due.is("32: nobody", x.reads(0), 4);
        Stories.row(x, 0, 0);
        Due.is("32: no places", x.reads(0), NoonVows.NONE);
    }

    private static void copy() {
        NoonVows x = new NoonVows();
        Stories.row(x, 0, 0, 1, 2, 3, 4);
        Stories.row(x, 1, 1, 5, 6, NoonVows.NONE);
        Stories.row(x, 2, 1, 7, 8, 9);
        Due.is("33: from", x.copy(4, 0, 0, 0, 1), NoonVows.BAD);
        Due.is("33: from", x.copy(-1, 0, 0, 0, 1), NoonVows.BAD);
        Due.is("33: to", x.copy(0, 0, 4, 0, 1), NoonVows.BAD);
        Due.is("33: to", x.copy(0, 0, -1, 0, 1), NoonVows.BAD);
        Due.is("33: NOTHING", x.copy(3, 0, 0, 0, 1), NoonVows.NOTHING);
        Due.is("33: NOTHING is ahead of INDEX", x.copy(0, 9, 3, 0, 1), NoonVows.NOTHING);
        Due.is("33: KIND is ahead of INDEX", x.copy(0, 9, 1, 0, 1), NoonVows.KIND);
        Due.is("33: place", x.copy(1, -1, 2, 0, 1), NoonVows.INDEX);
        Due.is("33: place", x.copy(1, 2, 2, 0, 2), NoonVows.INDEX);
        Due.is("33: at", x.copy(1, 0, 2, -1, 1), NoonVows.INDEX);
        Due.is("33: at", x.copy(1, 0, 2, 2, 2), NoonVows.INDEX);
        Due.is("33: many", x.copy(1, 0, 2, 0, -1), NoonVows.INDEX);
        Due.is("33: many", x.copy(1, 2, 2, 2, Integer.MAX_VALUE), NoonVows.INDEX);
        Due.is("33: many", x.copy(1, 0, 2, 0, 4), NoonVows.INDEX);
        Due.is("33: none, behind the last", x.copy(1, 3, 2, 3, 0), 0);
        Due.is("33: none, further", x.copy(1, 4, 2, 3, 0), NoonVows.INDEX);
        Due.is("33: refused, it stays", Stories.at(x, 2, 2), 9);
        Due.is("33: two", x.copy(1, 1, 2, 0, 2), 2);
        Due.is("33: came", Stories.at(x, 2, 0), 6);
        Due.is("33: came", Stories.at(x, 2, 1), NoonVows.KIND);
        Due.is("33: stays", Stories.at(x, 2, 2), 9);
        Due.is("33: stays there", Stories.at(x, 1, 1), 6);
    }

    private static void copyWithin() {
        NoonVows x = new NoonVows();
        Stories.row(x, 0, 0, 1, 2, 3, 4);
        Due.is("33: the same", x.copy(0, 0, 0, 1, 3), 3);
        int[] up = {1, 1, 2, 3};
        for (int k = 0; k < 4; k++) {
            Due.is("33: as they were", Stories.at(x, 0, k), up[k]);
        }
        Due.is("33: the same", x.copy(0, 2, 0, 0, 2), 2);
        int[] down = {2, 3, 2, 3};
        for (int k = 0; k < 4; k++) {
            Due.is("33: as they were", Stories.at(x, 0, k), down[k]);
        }
    }

    private static void lay() {
        NoonVows x = three();
        Stories.row(x, 0, 0, 1, 2);
        Due.is("34: slot", x.lay(5, 0, 0), NoonVows.BAD);
        Due.is("34: slot", x.lay(-1, 0, 0), NoonVows.BAD);
        Due.is("34: thing", x.lay(0, 4, 0), NoonVows.BAD);
        Due.is("34: thing", x.lay(0, -1, 0), NoonVows.BAD);
        Due.is("34: one", x.lay(0, 1, 3), NoonVows.BAD);
        Due.is("34: one", x.lay(0, 1, -1), NoonVows.BAD);
        Due.is("34: sheet", x.lay(0, 2, 4), NoonVows.BAD);
        Due.is("34: sheet", x.lay(0, 2, -1), NoonVows.BAD);
        Due.is("34: NOTHING", x.lay(0, 2, 1), NoonVows.NOTHING);
        Due.is("34: held nothing", x.lay(0, 1, 2), 0);
        Due.is("34: held one", x.lay(0, 2, 0), 1);
        Due.is("34: refused, it holds what it held", x.lay(0, 2, 1), NoonVows.NOTHING);
        Due.is("34: held a SHEET", x.lay(0, 3, -77), 2);
        Due.is("34: held a number", x.lay(0, 0, -77), 3);
        Due.is("34: held nothing", x.lay(0, 0, 0), 0);
        Due.is("34: the last SLOT", x.lay(4, 3, 0), 0);
    }

    private static void ask() {
        NoonVows x = new NoonVows();
        for (int kind = 0; kind < 6; kind++) {
            x.person(kind, 0, 40);
        }
        String[] isOf = {"0", "01", "02", "013", "024", "05"};
        int[] worths = {40, 46, 59, 92, 54, 1};
        for (int kind = 0; kind < 6; kind++) {
            x.lay(0, 1, kind);
            for (int wanted = 0; wanted < 6; wanted++) {
                boolean is = isOf[kind].indexOf('0' + wanted) >= 0;
                Due.is("35: " + kind + " as " + wanted, x.ask(0, wanted), is ? worths[kind] : NoonVows.KIND);
            }
        }
        x.lay(0, 1, 1);
        x.set(1, 2, 90);
        x.turns(1, 3);
        Due.is("35: as it was", x.ask(0, 1), 46);
        Due.is("35: as it was", x.ask(0, 3), NoonVows.KIND);
        x.lay(1, 3, 5);
        x.sheet(0, 0, 1);
        x.lay(2, 2, 0);
        Due.is("35: a number", x.ask(1, 0), NoonVows.KIND);
        Due.is("35: a SHEET", x.ask(2, 0), NoonVows.KIND);
        Due.is("35: NOTHING", x.ask(3, 0), NoonVows.NOTHING);
        Due.is("35: slot", x.ask(5, 0), NoonVows.BAD);
        Due.is("35: slot", x.ask(-1, 0), NoonVows.BAD);
        Due.is("35: kind", x.ask(0, 6), NoonVows.BAD);
        Due.is("35: BAD is ahead of NOTHING", x.ask(3, -1), NoonVows.BAD);
    }

    private static void item() {
        NoonVows x = three();
        Stories.row(x, 0, 1, 5, NoonVows.NONE);
        x.lay(0, 2, 0);
        x.lay(1, 1, 0);
        x.lay(2, 3, 0);
        Due.is("36: a place", x.item(0, 0), 5);
        x.mark(0, 0, 6);
        Due.is("36: as it was then", x.item(0, 0), 5);
        x.sheet(0, -1, 0);
        Due.is("36: a row of its own", x.item(0, 0), 5);
        Due.is("36: NO NUMBER", x.item(0, 1), NoonVows.KIND);
        Due.is("36: INDEX", x.item(0, 2), NoonVows.INDEX);
        Due.is("36: INDEX", x.item(0, -1), NoonVows.INDEX);
        Due.is("36: one is no SHEET", x.item(1, 0), NoonVows.KIND);
        Due.is("36: a number is no SHEET", x.item(2, 0), NoonVows.KIND);
        Due.is("36: KIND is ahead of INDEX", x.item(2, -1), NoonVows.KIND);
        Due.is("36: NOTHING", x.item(3, 0), NoonVows.NOTHING);
        Due.is("36: slot", x.item(5, 0), NoonVows.BAD);
        Due.is("36: slot", x.item(-1, 0), NoonVows.BAD);
    }

    private static void rest() {
        NoonVows x = three();
        x.sheet(0, 0, 1);
        x.lay(0, 3, -17);
        x.lay(1, 1, 0);
        x.lay(2, 2, 0);
        Due.is("37: -17 by 5", x.rest(0, 5), -2);
        Due.is("37: -17 by -5", x.rest(0, -5), -2);
        Due.is("37: by 0", x.rest(0, 0), NoonVows.NO);
        Due.is("37: one", x.rest(1, 0), NoonVows.KIND);
        Due.is("37: a SHEET", x.rest(2, 1), NoonVows.KIND);
        Due.is("37: NOTHING is ahead of NO", x.rest(3, 0), NoonVows.NOTHING);
        Due.is("37: slot", x.rest(5, 1), NoonVows.BAD);
        Due.is("37: slot", x.rest(-1, 1), NoonVows.BAD);
        x.lay(0, 3, Integer.MIN_VALUE);
        Due.is("37: the least by -1", x.rest(0, -1), 0);
        x.lay(4, 3, 17);
        Due.is("37: the last SLOT", x.rest(4, 10), 7);
    }
}
