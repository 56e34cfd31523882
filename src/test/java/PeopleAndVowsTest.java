/** Promises 1 to 12. */
public final class PeopleAndVowsTest {
    public static void main(String[] args) {
        aNewObject();
        person();
        told();
        as();
        turns();
        set();
        vow();
        vowTwiceInAnHour();
        vowIsFull();
        vowOf();
        breaks();
        eclipse();
        deal();
        seed();
        Due.end();
    }

    private static NoonVows oneOfEachKind() {
        NoonVows x = new NoonVows();
        for (int kind = 0; kind < 6; kind++) {
            x.person(kind, 23, 60);
        }
        return x;
    }

    private static void aNewObject() {
        NoonVows x = new NoonVows();
        int[] counts = {0, 0, 0, 0, 0, 0, 0, 1};
        for (int what = 0; what < 8; what++) {
            Due.is("1: count(" + what + ")", x.count(what), counts[what]);
        }
        for (int what = 0; what < 6; what++) {
            Due.is("1: land(" + what + ")", x.land(what), 0);
        }
        for (int k = 0; k < 4; k++) {
            Due.is("1: pour", x.pour(k), NoonVows.NOTHING);
        }
        for (int k = 0; k < 5; k++) {
            Due.is("1: ask", x.ask(k, 0), NoonVows.NOTHING);
        }
        for (int key = 0; key < 3; key++) {
            Due.is("1: why", x.why(key), NoonVows.NONE);
        }
        Due.is("1: back", x.back(), NoonVows.NO);
        Due.is("1: told", x.told(0, 0), NoonVows.BAD);
        Due.is("1: free", x.free(), 0);
    }

    private static void person() {
        NoonVows x = new NoonVows();
        Due.is("2: kind", x.person(-1, 0, 0), NoonVows.BAD);
        Due.is("2: kind", x.person(6, 0, 0), NoonVows.BAD);
        Due.is("2: east", x.person(0, -1, 0), NoonVows.BAD);
        Due.is("2: east", x.person(0, 24, 0), NoonVows.BAD);
        Due.is("2: faith", x.person(0, 0, -1), NoonVows.BAD);
        Due.is("2: faith", x.person(0, 0, 100), NoonVows.BAD);
        Due.is("2: nobody came", x.count(0), 0);
        for (int k = 0; k < 10; k++) {
            Due.is("2: number", x.person(k % 6, 23 - k, 99 - k), k);
        }
        Due.is("2: full", x.person(0, 0, 0), NoonVows.FULL);
        Due.is("2: BAD is ahead of FULL", x.person(6, 0, 0), NoonVows.BAD);
        Due.is("2: kind of the last", x.told(9, 0), 3);
        Due.is("2: east of the last", x.told(9, 1), 14);
        Due.is("2: faith of the last", x.told(9, 2), 90);
        Due.is("2: purse of the last", x.told(9, 3), 0);
    }

    private static void told() {
        NoonVows x = oneOfEachKind();
        int[] noons = {11, 12, 11, 18, 11, 11};
        int[] pays = {2, 1, 0, 5, 0, 9};
        int[] worths = {60, 66, 39, 132, 34, 1};
        for (int kind = 0; kind < 6; kind++) {
            Due.is("3: KIND", x.told(kind, 0), kind);
            Due.is("3: EAST", x.told(kind, 1), 23);
            Due.is("3: FAITH", x.told(kind, 2), 60);
            Due.is("3: NOON of " + kind, x.told(kind, 6), noons[kind]);
            Due.is("3: PAYS of " + kind, x.told(kind, 7), pays[kind]);
            Due.is("3: WORTH of " + kind, x.told(kind, 8), worths[kind]);
        }
        x.set(1, 1, 11);
        Due.is("3: NOON of a LATE one, 0 behind 23", x.told(1, 6), 0);
        x.set(3, 1, 5);
        Due.is("3: NOON of a SOLDIER, 17, 18, 0", x.told(3, 6), 0);
        x.set(4, 2, 99);
        Due.is("3: WORTH of a PRIEST below 0", x.told(4, 8), -5);
        x.vow(0, 1, 0);
        x.hours(1);
        x.vow(0, 1, 2);
        Due.is("3: given", x.told(0, 4), 2);
        Due.is("3: given", x.told(1, 4), 0);
        Due.is("3: given to", x.told(1, 5), 2);
        Due.is("3: given to", x.told(0, 5), 0);
        Due.is("3: what", x.told(0, 9), NoonVows.BAD);
        Due.is("3: what", x.told(0, -1), NoonVows.BAD);
        Due.is("3: one", x.told(6, 0), NoonVows.BAD);
        Due.is("3: one", x.told(-1, 0), NoonVows.BAD);
    }

    private static void as() {
        NoonVows x = oneOfEachKind();
        String[] isOf = {"0", "01", "02", "013", "024", "05"};
        for (int kind = 0; kind < 6; kind++) {
            for (int wanted = 0; wanted < 6; wanted++) {
                boolean is = isOf[kind].indexOf('0' + wanted) >= 0;
                Due.is("4: " + kind + " as " + wanted, x.as(kind, wanted), is ? 60 : NoonVows.KIND);
            }
        }
        Due.is("4: one", x.as(6, 0), NoonVows.BAD);
        Due.is("4: one", x.as(-1, 0), NoonVows.BAD);
        Due.is("4: kind", x.as(0, 6), NoonVows.BAD);
        Due.is("4: kind", x.as(0, -1), NoonVows.BAD);
    }

    private static void turns() {
        NoonVows x = oneOfEachKind();
        x.vow(1, 2, 0);
        Due.is("5: was", x.turns(1, 5), 1);
        Due.is("5: is", x.told(1, 0), 5);
        Due.is("5: its VOWS stay", x.count(1), 1);
        Due.is("5: KEEPS of a STRUCK one", x.vowOf(0, 3), 0);
        Due.is("5: was", x.turns(1, 3), 5);
        Due.is("5: FAITH stays", x.told(1, 2), 60);
        Due.is("5: the same", x.turns(1, 3), 3);
        Due.is("5: kind", x.turns(1, 6), NoonVows.BAD);
        Due.is("5: kind", x.turns(1, -1), NoonVows.BAD);
        Due.is("5: one", x.turns(6, 0), NoonVows.BAD);
        Due.is("5: one", x.turns(-1, 0), NoonVows.BAD);
        Due.is("5: refused, it stays", x.told(1, 0), 3);
    }

    private static void set() {
        NoonVows x = oneOfEachKind();
        int[] least = {0, 0, 0, -9999};
        int[] most = {0, 23, 99, 9999};
        int[] were = {0, 23, 60, 0};
        for (int what = 1; what <= 3; what++) {
            Due.is("6: was", x.set(2, what, least[what]), were[what]);
            Due.is("6: is", x.told(2, what), least[what]);
            Due.is("6: was", x.set(2, what, most[what]), least[what]);
            Due.is("6: too little", x.set(2, what, least[what] - 1), NoonVows.BAD);
            Due.is("6: too much", x.set(2, what, most[what] + 1), NoonVows.BAD);
            Due.is("6: is", x.told(2, what), most[what]);
        }
        Due.is("6: what", x.set(2, 0, 1), NoonVows.BAD);
        Due.is("6: what", x.set(2, 4, 1), NoonVows.BAD);
        Due.is("6: one", x.set(6, 1, 1), NoonVows.BAD);
        Due.is("6: one", x.set(-1, 1, 1), NoonVows.BAD);
    }

    private static void vow() {
        NoonVows x = oneOfEachKind();
        Due.is("7: one", x.vow(6, 0, 0), NoonVows.BAD);
        Due.is("7: one", x.vow(-1, 0, 0), NoonVows.BAD);
        Due.is("7: other", x.vow(0, 6, 0), NoonVows.BAD);
        Due.is("7: other", x.vow(0, -1, 0), NoonVows.BAD);
        Due.is("7: to itself", x.vow(0, 0, 0), NoonVows.BAD);
        Due.is("7: what", x.vow(0, 1, 3), NoonVows.BAD);
        Due.is("7: what", x.vow(0, 1, -1), NoonVows.BAD);
        Due.is("7: BAD is ahead of NO", x.vow(5, 5, 0), NoonVows.BAD);
        Due.is("7: STRUCK", x.vow(5, 0, 0), NoonVows.NO);
        Due.is("7: number", x.vow(0, 5, 0), 0);
        Due.is("7: number", x.vow(1, 5, 2), 1);
    }

    private static void vowTwiceInAnHour() {
        NoonVows x = oneOfEachKind();
        x.vow(0, 1, 0);
        x.vow(1, 2, 1);
        x.hours(1);
        x.vow(0, 2, 1);
        Due.is("7: 0, 1, 0 are the givers", x.count(1), 3);
        Due.is("7: twice in an HOUR", x.vow(0, 3, 2), NoonVows.NONE);
        Due.is("7: is STRUCK", x.told(0, 0), 5);
        Due.is("7: all that it has given go", x.count(1), 1);
        Due.is("7: the later ones have numbers less", x.vowOf(0, 0), 1);
        Due.is("7: LAPSED", x.land(2), 2);
        Due.is("7: is STRUCK now", x.vow(0, 3, 2), NoonVows.NO);
        x.turns(0, 0);
        Due.is("7: it gave in this HOUR all the same", x.vow(0, 3, 2), NoonVows.NONE);
        x.turns(0, 0);
        x.hours(1);
        Due.is("7: an HOUR later it may again", x.vow(0, 3, 2), 1);
        x.breaks(1);
        Due.is("7: though it is broken", x.vow(0, 3, 2), NoonVows.NONE);
        Due.is("7: refused ones do not count", x.vow(2, 2, 0), NoonVows.BAD);
        Due.is("7: so this is the first", x.vow(2, 1, 0), 1);
    }

    private static void vowIsFull() {
        NoonVows x = new NoonVows();
        for (int k = 0; k < 10; k++) {
            x.person(2, 0, 99);
        }
        for (int k = 0; k < 8; k++) {
            Due.is("7: number", x.vow(k, 9, 0), k);
        }
        x.hours(1);
        for (int k = 0; k < 8; k++) {
            Due.is("7: number", x.vow(k, 9, 0), 8 + k);
        }
        Due.is("7: FULL", x.vow(8, 9, 0), NoonVows.FULL);
        x.breaks(15);
        Due.is("7: what was refused as FULL was not given", x.vow(8, 9, 0), 15);
        Due.is("7: STRUCK OFF is ahead of FULL", x.vow(0, 9, 0), NoonVows.NONE);
        Due.is("7: two of its own went", x.count(1), 14);
    }

    private static void vowOf() {
        NoonVows x = oneOfEachKind();
        int[] keeps = {55, 65, 35, 32, 65};
        for (int kind = 0; kind < 5; kind++) {
            x.vow(kind, 5, kind % 3);
            Due.is("8: ONE", x.vowOf(kind, 0), kind);
            Due.is("8: OTHER", x.vowOf(kind, 1), 5);
            Due.is("8: WHAT", x.vowOf(kind, 2), kind % 3);
            Due.is("8: KEEPS of " + kind, x.vowOf(kind, 3), keeps[kind]);
        }
        Due.is("8: what", x.vowOf(0, 4), NoonVows.BAD);
        Due.is("8: what", x.vowOf(0, -1), NoonVows.BAD);
        Due.is("8: vow", x.vowOf(5, 0), NoonVows.BAD);
        Due.is("8: vow", x.vowOf(-1, 0), NoonVows.BAD);
        int[] least = {0, 10, 0, 5, 30};
        int[] most = {94, 100, 74, 50, 100};
        for (int kind = 0; kind < 5; kind++) {
            x.set(kind, 2, 3);
            Due.is("8: KEEPS of " + kind + " with FAITH 3", x.vowOf(kind, 3), least[kind]);
            x.set(kind, 2, 99);
            Due.is("8: KEEPS of " + kind + " with FAITH 99", x.vowOf(kind, 3), most[kind]);
        }
        x.hours(1);
        x.vow(0, 1, 0);
        Due.is("8: 5 less with each VOW given", x.vowOf(0, 3), 89);
    }

    private static void breaks() {
        NoonVows x = oneOfEachKind();
        x.vow(0, 1, 0);
        x.vow(1, 2, 1);
        x.vow(2, 3, 2);
        Due.is("9: vow", x.breaks(3), NoonVows.BAD);
        Due.is("9: vow", x.breaks(-1), NoonVows.BAD);
        Due.is("9: left", x.breaks(1), 2);
        Due.is("9: the later one moved", x.vowOf(1, 0), 2);
        Due.is("9: the later one moved", x.vowOf(1, 1), 3);
        Due.is("9: the later one moved", x.vowOf(1, 2), 2);
        Due.is("9: LAPSED", x.land(2), 1);
        Due.is("9: left", x.breaks(0), 1);
        Due.is("9: left", x.breaks(0), 0);
        Due.is("9: LAPSED", x.land(2), 3);
        Due.is("9: none", x.breaks(0), NoonVows.BAD);
    }

    private static void eclipse() {
        NoonVows x = oneOfEachKind();
        Due.is("10: none", x.eclipse(), 0);
        x.vow(0, 1, 0);
        x.vow(1, 2, 1);
        Due.is("10: two", x.eclipse(), 2);
        Due.is("10: LAPSED", x.land(2), 2);
        Due.is("10: VOWS", x.count(1), 0);
        Due.is("10: KINDS stay", x.told(1, 0), 1);
    }

    private static void deal() {
        NoonVows x = new NoonVows();
        Due.is("11: n", x.deal(0), NoonVows.BAD);
        Due.is("11: n", x.deal(11), NoonVows.BAD);
        Due.is("11: no draw", x.count(7), 1);
        Due.is("11: came", x.deal(2), 2);
        int z = 1;
        for (int one = 0; one < 2; one++) {
            int[] rests = {6, 24, 100};
            for (int what = 0; what < 3; what++) {
                z = z * 1103515245 + 12345;
                Due.is("11: drawn", x.told(one, what), (z >>> 8) % rests[what]);
            }
            Due.is("11: PURSE", x.told(one, 3), 0);
        }
        Due.is("11: z", x.count(7), z);
        Due.is("11: came", x.deal(1), 1);
        x.deal(6);
        Due.is("11: room for one", x.deal(5), 1);
        int behind = x.count(7);
        Due.is("11: room for none", x.deal(10), 0);
        Due.is("11: no draws for others", x.count(7), behind);
    }

    private static void seed() {
        NoonVows x = new NoonVows();
        Due.is("12: was", x.seed(Integer.MIN_VALUE), 1);
        Due.is("12: was", x.seed(-7), Integer.MIN_VALUE);
        Due.is("12: is", x.count(7), -7);
    }
}
