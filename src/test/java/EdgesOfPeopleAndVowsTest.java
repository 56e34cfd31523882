/** The edges that promises 1 to 12 name. */
public final class EdgesOfPeopleAndVowsTest {
    private static final int LEAST = Integer.MIN_VALUE, MOST = Integer.MAX_VALUE;

    public static void main(String[] args) {
        aNewObject();
        nothingThereYet();
        personIsAdded();
        personIsRefused();
        toldOfOne();
        toldIsRefused();
        asAnswers();
        asIsRefused();
        turnsAnswers();
        turnsIsRefused();
        setAnswers();
        setIsRefused();
        vowIsGiven();
        vowIsBad();
        vowOfAStruckOne();
        vowIsFull();
        vowTwice();
        vowOfAVow();
        vowOfIsRefused();
        breaksOne();
        breaksIsRefused();
        eclipseFreesAll();
        dealComes();
        dealIsRefused();
        seedIsAny();
        Due.end();
    }

    private static void aNewObject() {
        // 1: "As told; no PEOPLE."
        NoonVows x = new NoonVows();
        int[] counts = {0, 0, 0, 0, 0, 0, 0, 1};
        for (int what = 0; what < 8; what++) {
            Due.is("1: count " + what, x.count(what), counts[what]);
        }
        for (int what = 0; what < 6; what++) {
            Due.is("1: land " + what, x.land(what), 0);
        }
        for (int slot = 0; slot < 5; slot++) {
            Due.is("1: a SLOT holds nothing", x.rest(slot, 1), NoonVows.NOTHING);
        }
        for (int sheet = 0; sheet < 4; sheet++) {
            Due.is("1: a SHEET is MISSING", x.reads(sheet), NoonVows.NOTHING);
        }
        for (int key = 0; key < 3; key++) {
            Due.is("1: no TEXT", x.why(key), NoonVows.NONE);
        }
        Due.is("1: no IMAGE", x.back(), NoonVows.NO);
        NoonVows other = new NoonVows();
        Stories.busy(other);
        Due.is("1: no object has what another has", new NoonVows().count(0), 0);
        Whole.alike("1: a new object is always the same", Stories::nothing, Stories::nothing);
    }

    /** With no PEOPLE and no VOWS even the least numbers are BAD. */
    private static void nothingThereYet() {
        // 3: "BAD."
        Refused.by("3: nobody yet", Stories::nothing, x -> x.told(0, 0), NoonVows.BAD);
        // 4: "BAD: one"
        Refused.by("4: nobody yet", Stories::nothing, x -> x.as(0, 0), NoonVows.BAD);
        // 5: "BAD."
        Refused.by("5: nobody yet", Stories::nothing, x -> x.turns(0, 0), NoonVows.BAD);
        // 6: "BAD."
        Refused.by("6: nobody yet", Stories::nothing, x -> x.set(0, 1, 0), NoonVows.BAD);
        // 7: "BAD:"
        Refused.by("7: nobody yet", Stories::nothing, x -> x.vow(0, 1, 0), NoonVows.BAD);
        Refused.by("7: only one yet", Stories.vowers(1), x -> x.vow(0, 1, 0), NoonVows.BAD);
        // 8: "BAD."
        Refused.by("8: no VOW yet", Stories.vowers(2), x -> x.vowOf(0, 0), NoonVows.BAD);
        // 9: "BAD."
        Refused.by("9: no VOW yet", Stories.vowers(2), x -> x.breaks(0), NoonVows.BAD);
    }

    private static void personIsAdded() {
        // 2: "One more of the PEOPLE: its number."
        NoonVows x = new NoonVows();
        int[] kinds = {0, 5, 3};
        int[] easts = {0, 23, 11};
        int[] faiths = {0, 99, 50};
        for (int k = 0; k < 3; k++) {
            Due.is("2: its number", x.person(kinds[k], easts[k], faiths[k]), k);
        }
        for (int k = 0; k < 3; k++) {
            Due.is("2: KIND", x.told(k, 0), kinds[k]);
            Due.is("2: EAST", x.told(k, 1), easts[k]);
            Due.is("2: FAITH", x.told(k, 2), faiths[k]);
            Due.is("2: PURSE", x.told(k, 3), 0);
        }
        Due.is("2: no draw", x.count(7), 1);
    }

    private static void personIsRefused() {
        // 2: "BAD;"
        Refused.beyond("2: kind", Stories::busy, 0, 5, (x, v) -> x.person(v, 0, 0));
        Refused.beyond("2: east", Stories::busy, 0, 23, (x, v) -> x.person(0, v, 0));
        Refused.beyond("2: faith", Stories::busy, 0, 99, (x, v) -> x.person(0, 0, v));
        // 2: "FULL."
        Refused.by("2: FULL", Stories::tenPeople, x -> x.person(5, 23, 99), NoonVows.FULL);
        Refused.by("2: BAD kind, ahead of FULL", Stories::tenPeople, x -> x.person(6, 0, 0), NoonVows.BAD);
        Refused.by("2: BAD east, ahead of FULL", Stories::tenPeople, x -> x.person(0, 24, 0), NoonVows.BAD);
        Refused.by("2: BAD faith, ahead of FULL", Stories::tenPeople, x -> x.person(0, 0, -1), NoonVows.BAD);
    }

    private static void toldOfOne() {
        // 3: "Of one: what 0 KIND, 1 EAST, 2 FAITH, 3 PURSE, 4 how many VOWS it has given, 5 how many were given to it (that are there), 6 NOON, 7 PAYS, 8 WORTH."
        NoonVows x = new NoonVows();
        x.person(0, 0, 0);
        x.person(3, 23, 99);
        x.set(1, 3, -9999);
        int[] due = {3, 23, 99, -9999, 0, 0, 18, 5, 210};
        for (int what = 0; what < 9; what++) {
            Due.is("3: what " + what, x.told(1, what), due[what]);
        }
        NoonVows y = Stories.behind(Stories::sixteenVows);
        Due.is("3: given", y.told(0, 4), 2);
        Due.is("3: given to it, all 16", y.told(9, 5), 16);
        Due.is("3: none given", y.told(9, 4), 0);
        Due.is("3: none given to it", y.told(0, 5), 0);
        y.breaks(0);
        Due.is("3: that are there", y.told(0, 4), 1);
        Due.is("3: that are there", y.told(9, 5), 15);
        y.eclipse();
        Due.is("3: that are there", y.told(0, 4), 0);
        Due.is("3: that are there", y.told(9, 5), 0);
    }

    private static void toldIsRefused() {
        // 3: "BAD."
        Refused.beyond("3: one", Stories::busy, 0, 6, (x, v) -> x.told(v, 0));
        Refused.beyond("3: one of ten", Stories::tenPeople, 0, 9, (x, v) -> x.told(v, 0));
        Refused.beyond("3: what", Stories::busy, 0, 8, (x, v) -> x.told(0, v));
    }

    private static void asAnswers() {
        // 4: "One as one of a KIND: FAITH."
        NoonVows x = new NoonVows();
        x.person(3, 0, 0);
        x.person(4, 0, 99);
        Due.is("4: as what it is", x.as(0, 3), 0);
        Due.is("4: as the one above", x.as(0, 1), 0);
        Due.is("4: as the topmost", x.as(0, 0), 0);
        Due.is("4: the greatest FAITH", x.as(1, 2), 99);
    }

    private static void asIsRefused() {
        // 4: "BAD: one, kind;"
        Refused.beyond("4: one", Stories::busy, 0, 6, (x, v) -> x.as(v, 0));
        Refused.beyond("4: kind", Stories::busy, 0, 5, (x, v) -> x.as(0, v));
        // 4: "KIND: it is not of that KIND, nor of one under it."
        Refused.by("4: of the one above", Stories::busy, x -> x.as(0, 1), NoonVows.KIND);
        Refused.by("4: of one beside", Stories::busy, x -> x.as(1, 2), NoonVows.KIND);
        Refused.by("4: of one under another", Stories::busy, x -> x.as(3, 2), NoonVows.KIND);
        Refused.by("4: STRUCK is no LATE", Stories::busy, x -> x.as(5, 1), NoonVows.KIND);
        Refused.by("4: BAD one, ahead of KIND", Stories::busy, x -> x.as(7, 5), NoonVows.BAD);
        Refused.by("4: BAD kind, ahead of KIND", Stories::busy, x -> x.as(0, 6), NoonVows.BAD);
    }

    private static void turnsAnswers() {
        // 5: "One is of another KIND from now on: what it was."
        NoonVows x = new NoonVows();
        x.person(0, 23, 99);
        x.person(0, 0, 0);
        x.set(0, 3, 9999);
        x.vow(0, 1, 1);
        int was = 0;
        for (int kind : new int[] {5, 4, 3, 2, 1, 0, 0}) {
            Due.is("5: what it was", x.turns(0, kind), was);
            Due.is("5: from now on", x.told(0, 0), kind);
            Due.is("5: EAST stays", x.told(0, 1), 23);
            Due.is("5: FAITH stays", x.told(0, 2), 99);
            Due.is("5: PURSE stays", x.told(0, 3), 9999);
            Due.is("5: VOWS stay", x.count(1), 1);
            Due.is("5: STRUCK or not", x.count(3), kind == 5 ? 1 : 0);
            was = kind;
        }
        Due.is("5: another one stays", x.told(1, 0), 0);
    }

    private static void turnsIsRefused() {
        // 5: "BAD."
        Refused.beyond("5: one", Stories::busy, 0, 6, (x, v) -> x.turns(v, 0));
        Refused.beyond("5: kind", Stories::busy, 0, 5, (x, v) -> x.turns(0, v));
    }

    private static void setAnswers() {
        // 6: "EAST, FAITH, PURSE (what 1 .. 3) of one becomes v: what it was."
        int[][] edges = {{1, 0, 23}, {2, 0, 99}, {3, -9999, 9999}};
        for (int[] edge : edges) {
            int what = edge[0];
            NoonVows x = new NoonVows();
            x.person(1, 7, 7);
            x.person(1, 7, 7);
            x.set(1, 3, 7);
            Due.is("6: was, to the least", x.set(1, what, edge[1]), 7);
            Due.is("6: is the least", x.told(1, what), edge[1]);
            Due.is("6: was, to the greatest", x.set(1, what, edge[2]), edge[1]);
            Due.is("6: is the greatest", x.told(1, what), edge[2]);
            Due.is("6: was, to the same", x.set(1, what, edge[2]), edge[2]);
            for (int other = 1; other <= 3; other++) {
                Due.is("6: what else it has stays", x.told(1, other), other == what ? edge[2] : 7);
            }
            Due.is("6: another one stays", x.told(0, what), what == 3 ? 0 : 7);
        }
    }

    private static void setIsRefused() {
        // 6: "BAD."
        Refused.beyond("6: one", Stories::busy, 0, 6, (x, v) -> x.set(v, 1, 5));
        Refused.beyond("6: what", Stories::busy, 1, 3, (x, v) -> x.set(0, v, 5));
        Refused.beyond("6: EAST", Stories::busy, 0, 23, (x, v) -> x.set(0, 1, v));
        Refused.beyond("6: FAITH", Stories::busy, 0, 99, (x, v) -> x.set(0, 2, v));
        Refused.beyond("6: PURSE", Stories::busy, -9999, 9999, (x, v) -> x.set(0, 3, v));
    }

    private static void vowIsGiven() {
        // 7: "One gives another one a VOW: its number."
        NoonVows x = Stories.behind(Stories.vowers(10));
        Due.is("7: the first", x.vow(9, 0, 2), 0);
        Due.is("7: the next", x.vow(0, 9, 0), 1);
        Due.is("7: two may give one another", x.count(1), 2);
        Due.is("7: to a STRUCK one", x.turns(5, 5), 0);
        Due.is("7: to a STRUCK one", x.vow(1, 5, 1), 2);
        int[] due = {9, 0, 2};
        for (int what = 0; what < 3; what++) {
            Due.is("7: as it was given", x.vowOf(0, what), due[what]);
        }
        NoonVows y = Stories.behind(Stories::sixteenVows);
        Due.is("7: the greatest number", y.vowOf(15, 0), 7);
    }

    private static void vowIsBad() {
        // 7: "BAD: also to itself;"
        Refused.beyond("7: one", Stories::busy, 0, 6, (x, v) -> x.vow(v, v == 0 ? 1 : 0, 0));
        Refused.beyond("7: other", Stories::busy, 0, 6, (x, v) -> x.vow(v == 0 ? 4 : 0, v, 0));
        Refused.beyond("7: what", Stories::busy, 0, 2, (x, v) -> x.vow(0, 1, v));
        Refused.by("7: to itself", Stories::busy, x -> x.vow(0, 0, 0), NoonVows.BAD);
        Refused.by("7: BAD ahead of NO, to itself", Stories::busy, x -> x.vow(5, 5, 0), NoonVows.BAD);
        Refused.by("7: BAD ahead of NO, other", Stories::busy, x -> x.vow(5, 7, 0), NoonVows.BAD);
        Refused.by("7: BAD ahead of NO, what", Stories::busy, x -> x.vow(5, 0, 3), NoonVows.BAD);
        Refused.by("7: BAD ahead of FULL, to itself", Stories::sixteenVows, x -> x.vow(8, 8, 0), NoonVows.BAD);
        Refused.by("7: BAD ahead of FULL, other", Stories::sixteenVows, x -> x.vow(8, 10, 0), NoonVows.BAD);
        Refused.by("7: BAD ahead of FULL, what", Stories::sixteenVows, x -> x.vow(8, 9, -1), NoonVows.BAD);
        Refused.by("7: BAD ahead of STRUCK OFF, to itself", Stories::sixteenVows, x -> x.vow(0, 0, 0), NoonVows.BAD);
        Refused.by("7: BAD ahead of STRUCK OFF, other", Stories::sixteenVows, x -> x.vow(0, -1, 0), NoonVows.BAD);
        Refused.by("7: BAD ahead of STRUCK OFF, what", Stories::sixteenVows, x -> x.vow(0, 9, 3), NoonVows.BAD);
    }

    private static void vowOfAStruckOne() {
        // 7: "NO: it is STRUCK;"
        Refused.by("7: STRUCK", Stories::busy, x -> x.vow(5, 0, 0), NoonVows.NO);
        Refused.by("7: NO ahead of FULL", Stories::strikesWhenFull, x -> x.vow(8, 9, 0), NoonVows.NO);
        Refused.by("7: NO ahead of STRUCK OFF", Stories::strikesWhenFull, x -> x.vow(7, 9, 0), NoonVows.NO);
        NoonVows x = Stories.behind(Stories.vowers(2));
        x.turns(0, 5);
        Due.is("7: STRUCK", x.vow(0, 1, 0), NoonVows.NO);
        x.turns(0, 0);
        Due.is("7: it was refused, so this is the first", x.vow(0, 1, 0), 0);
    }

    private static void vowIsFull() {
        // 7: "FULL."
        Refused.by("7: FULL", Stories::sixteenVows, x -> x.vow(8, 9, 0), NoonVows.FULL);
        Refused.by("7: FULL", Stories::sixteenVows, x -> x.vow(9, 8, 2), NoonVows.FULL);
        NoonVows x = Stories.behind(Stories::sixteenVows);
        x.vow(8, 9, 0);
        x.breaks(0);
        Due.is("7: FULL was refused, so this is the first", x.vow(8, 9, 0), 15);
    }

    private static void vowTwice() {
        // 7: "If it gave one by this act in this HOUR already, it is STRUCK OFF instead: NONE (ahead of FULL)."
        NoonVows x = Stories.behind(Stories::sixteenVows);
        Due.is("7: STRUCK OFF, ahead of FULL", x.vow(0, 9, 0), NoonVows.NONE);
        Due.is("7: it is STRUCK", x.told(0, 0), 5);
        Due.is("7: no VOW more, two less", x.count(1), 14);
        Due.is("7: LAPSED", x.land(2), 2);
        NoonVows early = Stories.behind(Stories.vowers(3));
        early.vow(0, 1, 0);
        Due.is("7: also to another one, of another sort, at HOUR 0", early.vow(0, 2, 2), NoonVows.NONE);
        Due.is("7: the other one may", early.vow(1, 0, 0), 0);
        NoonVows next = Stories.behind(Stories.vowers(2));
        next.vow(0, 1, 0);
        next.hours(1);
        Due.is("7: an HOUR later", next.vow(0, 1, 0), 1);
        NoonVows day = Stories.behind(Stories.vowers(2));
        day.vow(0, 1, 0);
        day.hours(24);
        Due.holds("7: a day later it is not this HOUR", day.vow(0, 1, 0) >= 0);
        vowTwiceThoughTheFirstIsGone();
        vowTwiceAtTheEnd();
    }

    private static void vowTwiceThoughTheFirstIsGone() {
        // 7: "If it gave one by this act in this HOUR already"
        NoonVows x = Stories.behind(Stories.vowers(2));
        x.vow(0, 1, 0);
        x.eclipse();
        Due.is("7: it gave one, though that is gone", x.vow(0, 1, 0), NoonVows.NONE);
        Due.is("7: none was left to go", x.land(2), 1);
        NoonVows y = Stories.behind(Stories.vowers(2));
        y.vow(0, 0, 0);
        y.vow(0, 1, 3);
        Due.is("7: what was refused was not given", y.vow(0, 1, 0), 0);
        NoonVows z = Stories.behind(Stories.vowers(2));
        z.sworn(1, 0);
        Due.is("7: what was only thought was not given", z.vow(0, 1, 0), 0);
    }

    private static void vowTwiceAtTheEnd() {
        // 7: "in this HOUR already"
        NoonVows x = Stories.behind(Stories.vowers(2));
        Stories.lastHour(x);
        Due.is("7: at HOUR 9999", x.vow(0, 1, 0), 0);
        x.hours(100);
        Due.is("7: HOUR 9999 goes on", x.vow(0, 1, 0), NoonVows.NONE);
    }

    private static void vowOfAVow() {
        // 8: "Of a VOW: what 0 ONE, 1 OTHER, 2 WHAT, 3 KEEPS."
        NoonVows x = Stories.behind(Stories.vowers(10));
        x.vow(9, 0, 2);
        int[] due = {9, 0, 2, 45};
        for (int what = 0; what < 4; what++) {
            Due.is("8: what " + what, x.vowOf(0, what), due[what]);
        }
    }

    private static void vowOfIsRefused() {
        // 8: "BAD."
        Refused.beyond("8: what", Stories::busy, 0, 3, (x, v) -> x.vowOf(0, v));
        Refused.beyond("8: vow", Stories::sixteenVows, 0, 15, (x, v) -> x.vowOf(v, 0));
        int last = Stories.behind(Stories::busy).count(1) - 1;
        Refused.beyond("8: vow", Stories::busy, 0, last, (x, v) -> x.vowOf(v, 3));
    }

    private static void breaksOne() {
        // 9: "A VOW is broken: it goes (LAPSED 1 more): how many are left."
        NoonVows x = Stories.behind(Stories::sixteenVows);
        for (int left = 15; left >= 0; left--) {
            int z = x.count(7);
            Due.is("9: how many are left", x.breaks(left % 2 == 0 ? 0 : left), left);
            Due.is("9: how many are left", x.count(1), left);
            Due.is("9: LAPSED", x.land(2), 16 - left);
            Due.is("9: no draw", x.count(7), z);
        }
        Due.is("9: nobody is STRUCK", x.count(3), 0);
    }

    private static void breaksIsRefused() {
        // 9: "BAD."
        Refused.beyond("9: vow", Stories::sixteenVows, 0, 15, (x, v) -> x.breaks(v));
        int last = Stories.behind(Stories::busy).count(1) - 1;
        Refused.beyond("9: vow", Stories::busy, 0, last, (x, v) -> x.breaks(v));
        Refused.by("9: none is left", Stories.busyThen(x -> x.eclipse()), x -> x.breaks(0), NoonVows.BAD);
    }

    private static void eclipseFreesAll() {
        // 10: "An eclipse: all VOWS go (each LAPSED 1 more): how many there were."
        NoonVows x = new NoonVows();
        Due.is("10: no VOWS yet", x.eclipse(), 0);
        Due.is("10: none LAPSED", x.land(2), 0);
        NoonVows y = Stories.behind(Stories::sixteenVows);
        y.breaks(3);
        y.breaks(3);
        Due.is("10: 14", y.eclipse(), 14);
        Due.is("10: LAPSED, with the two ahead", y.land(2), 16);
        Due.is("10: none is left", y.count(1), 0);
        Due.is("10: none is left", y.eclipse(), 0);
        Due.is("10: LAPSED", y.land(2), 16);
        NoonVows z = Stories.behind(Stories::sixteenVows);
        Due.is("10: all 16", z.eclipse(), 16);
        Due.is("10: LAPSED", z.land(2), 16);
        Due.is("10: there is room again", z.vow(8, 9, 0), 0);
    }

    private static void dealComes() {
        // 11: "PEOPLE are drawn, n (1 .. 10) of them, as many as there is room for (no draws for others): how many came."
        for (int there = 0; there <= 10; there++) {
            for (int n = 1; n <= 10; n++) {
                NoonVows x = Stories.behind(Stories.vowers(there));
                int room = Math.min(n, 10 - there);
                Due.is("11: " + n + " to " + there, x.deal(n), room);
                Due.is("11: PEOPLE", x.count(0), there + room);
                int z = 1;
                for (int k = 0; k < 3 * room; k++) {
                    z = Stories.drawn(z);
                }
                Due.is("11: three draws for each that came", x.count(7), z);
            }
        }
    }

    private static void dealIsRefused() {
        // 11: "BAD."
        Refused.beyond("11: n", Stories::nothing, 1, 10, (x, v) -> x.deal(v));
        Refused.beyond("11: n, without room", Stories::tenPeople, 1, 10, (x, v) -> x.deal(v));
    }

    private static void seedIsAny() {
        // 12: "z becomes v: what it was."
        NoonVows x = new NoonVows();
        int was = 1;
        for (int v : new int[] {LEAST, MOST, 0, -1, NoonVows.BAD}) {
            Due.is("12: what it was", x.seed(v), was);
            Due.is("12: z", x.count(7), v);
            was = v;
        }
    }
}
