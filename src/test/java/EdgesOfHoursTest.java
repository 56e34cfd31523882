/** The edges that 3 CHAIN and what follows it in the Terms (T3) name, and those of promises 13 to 23. */
public final class EdgesOfHoursTest {
    public static void main(String[] args) {
        hoursGoBy();
        hoursUpToTheLast();
        hoursIsRefused();
        landTells();
        landIsRefused();
        chain();
        reachesFewest();
        reachesIsRefused();
        onlyThought();
        withoutTheBoundOfTheHour();
        behindHours();
        behindIsRefused();
        freeFirst();
        freeAtTheEdge();
        swornOfTwo();
        swornBehindAllOthers();
        swornThoughThereAreSixteen();
        swornIsRefused();
        trustOfOne();
        trustIsRefused();
        debtorOfAll();
        debtorMayBeBelowZero();
        debtorIsRefused();
        clockByEast();
        clockByNumbers();
        clockTogether();
        clockIsRefused();
        feeGives();
        fineGives();
        fineIsRefused();
        Due.end();
    }

    private static void hoursGoBy() {
        // 13: "n (1 .. 100) HOURS"
        for (int n : new int[] {1, 2, 99, 100}) {
            NoonVows x = new NoonVows();
            Due.is("13: none LAPSED", x.hours(n), 0);
            Due.is("13: THE HOUR", x.count(2), n);
        }
        // 13: ": LAPSED in them."
        NoonVows x = Stories.behind(Stories::sixteenVows);
        x.breaks(0);
        Tapes.text(x, "keep 0");
        Due.is("13: ahead of their noon, HOUR 11", x.hours(10), 0);
        Due.is("13: all 15, not what LAPSED ahead", x.hours(1), 15);
        Due.is("13: LAPSED, with that ahead", x.land(2), 16);
        Due.is("13: none is left to lapse", x.hours(100), 0);
        NoonVows y = Stories.behind(Stories.vowers(2));
        Tapes.text(y, "keep 100");
        y.vow(0, 1, 0);
        Due.is("13: none LAPSED", y.hours(100), 0);
        Due.is("13: KEPT at 12, 36, 60, 84", y.land(1), 4);
    }

    private static void hoursUpToTheLast() {
        // 13: "(no more than up to 9999)"
        int[][] rows = {{99, 100, 9999}, {98, 100, 9998}, {100, 100, 9999}, {100, 99, 9999}, {100, 98, 9998}};
        for (int[] row : rows) {
            NoonVows x = new NoonVows();
            for (int k = 0; k < 98; k++) {
                x.hours(100);
            }
            x.hours(row[0]);
            x.hours(row[1]);
            Due.is("13: THE HOUR, from " + (9800 + row[0]), x.count(2), row[2]);
        }
        NoonVows x = Stories.behind(Stories.vowers(2));
        Stories.lastHour(x);
        x.vow(0, 1, 2);
        for (int n : new int[] {1, 100}) {
            Due.is("13: no HOUR is left", x.hours(n), 0);
            Due.is("13: nothing is paid then", x.told(0, 3), 0);
            Due.is("13: THE HOUR", x.count(2), 9999);
        }
        NoonVows y = Stories.behind(Stories.vowers(2));
        for (int k = 0; k < 99; k++) {
            y.hours(100);
        }
        y.hours(97);
        y.vow(0, 1, 2);
        y.hours(100);
        Due.is("13: two HOURS are left, paid twice", y.told(0, 3), -4);
    }

    private static void hoursIsRefused() {
        // 13: "BAD."
        Refused.beyond("13: n", Stories::busy, 1, 100, (x, v) -> x.hours(v));
        Refused.by("13: n, at HOUR 9999", Stories::lastHour, x -> x.hours(0), NoonVows.BAD);
        Refused.by("13: n, at HOUR 9999", Stories::lastHour, x -> x.hours(101), NoonVows.BAD);
    }

    private static void landTells() {
        // 14: "What was 0 how many VOWS there are, 1 KEPT, 2 LAPSED, 3 those who have given one that is there, as a set, 4 those to whom one was given that is there, as a set, 5 CHAIN."
        NoonVows none = new NoonVows();
        for (int what = 0; what < 6; what++) {
            Due.is("14: nothing there yet, what " + what, none.land(what), 0);
        }
        NoonVows x = Stories.behind(Stories::sixteenVows);
        int[] full = {16, 0, 0, 255, 512, 1};
        for (int what = 0; what < 6; what++) {
            Due.is("14: 16 VOWS, what " + what, x.land(what), full[what]);
        }
        x.breaks(0);
        Due.is("14: one of two that 0 has given is there", x.land(3), 255);
        x.breaks(7);
        Due.is("14: none that 0 has given is there", x.land(3), 254);
        Due.is("14: to 9 still", x.land(4), 512);
        Tapes.text(x, "keep 100");
        x.hours(11);
        Due.is("14: KEPT", x.land(1), 14);
        x.eclipse();
        int[] gone = {0, 14, 16, 0, 0, 0};
        for (int what = 0; what < 6; what++) {
            Due.is("14: all are gone, what " + what, x.land(what), gone[what]);
        }
    }

    private static void landIsRefused() {
        // 14: "BAD."
        Refused.beyond("14: what", Stories::busy, 0, 5, (x, v) -> x.land(v));
        Refused.beyond("14: what, nothing there yet", Stories::nothing, 0, 5, (x, v) -> x.land(v));
    }

    private static NoonVows given(int... pairs) {
        NoonVows x = Stories.behind(Stories.vowers(10));
        Tapes.text(x, "keep 100");
        for (int pair : pairs) {
            x.hours(1);
            x.vow(pair / 10, pair % 10, 0);
        }
        return x;
    }

    private static void chain() {
        // T3: "CHAIN: the most VOWS one behind the other (the OTHER of one is the ONE of the next) in which nobody comes twice."
        Due.is("T3: no VOWS", given().land(5), 0);
        Due.is("T3: one VOW", given(90).land(5), 1);
        Due.is("T3: the same pair twice", given(90, 90).land(5), 1);
        Due.is("T3: there and back: nobody comes twice", given(90, 9).land(5), 1);
        Due.is("T3: a ring of three", given(1, 12, 20).land(5), 2);
        Due.is("T3: two that end at one", given(2, 12).land(5), 1);
        Due.is("T3: two that begin at one", given(1, 2).land(5), 1);
        Due.is("T3: not the first way but the longest", given(3, 1, 12, 23).land(5), 3);
        Due.is("T3: all ten, by numbers down", given(98, 87, 76, 65, 54, 43, 32, 21, 10).land(5), 9);
        Due.is("T3: a ring of all ten", given(98, 87, 76, 65, 54, 43, 32, 21, 10, 9).land(5), 9);
        Due.is("T3: into a ring and around it", given(51, 12, 23, 31).land(5), 3);
    }

    private static void reachesFewest() {
        // 15: "REACHES."
        // T3: "REACHES: the fewest VOWS, one behind the other, that lead from one to another one (0: itself)."
        NoonVows none = Stories.behind(Stories.vowers(10));
        Due.is("T3: itself, without VOWS", none.reaches(0, 0), 0);
        Due.is("T3: itself, the last one", none.reaches(9, 9), 0);
        NoonVows all = given(98, 87, 76, 65, 54, 43, 32, 21, 10, 9);
        for (int one = 0; one < 10; one++) {
            for (int other = 0; other < 10; other++) {
                Due.is("T3: around a ring", all.reaches(one, other), (one - other + 10) % 10);
            }
        }
        NoonVows two = given(1, 12, 23, 39, 49, 4);
        Due.is("T3: the fewest of two ways", two.reaches(0, 9), 2);
        Due.is("T3: one VOW", two.reaches(0, 4), 1);
    }

    private static void reachesIsRefused() {
        // 15: "BAD;"
        Refused.beyond("15: one", Stories::busy, 0, 6, (x, v) -> x.reaches(v, v));
        Refused.beyond("15: one", Stories::busy, 0, 6, (x, v) -> x.reaches(v, 0));
        Refused.beyond("15: other", Stories::busy, 0, 6, (x, v) -> x.reaches(0, v));
        Refused.by("15: nobody yet", Stories::nothing, x -> x.reaches(0, 0), NoonVows.BAD);
        // 15: "NONE: it does not."
        Due.is("15: not backwards", given(1, 12).reaches(2, 0), NoonVows.NONE);
        Due.is("15: none leads there", given(1, 12).reaches(0, 3), NoonVows.NONE);
        Due.is("15: no VOWS", given().reaches(0, 9), NoonVows.NONE);
        NoonVows gone = given(1);
        gone.eclipse();
        Due.is("15: all VOWS are gone", gone.reaches(0, 1), NoonVows.NONE);
        NoonVows lastGone = given(1, 12);
        lastGone.breaks(1);
        Due.is("15: the last VOW is gone", lastGone.reaches(0, 2), NoonVows.NONE);
        Due.is("14: the last VOW is gone", lastGone.land(5), 1);
        Refused.by("15: NONE", Stories::busy, x -> x.reaches(5, 0), NoonVows.NONE);
        Refused.by("15: BAD ahead of NONE", Stories::busy, x -> x.reaches(5, 7), NoonVows.BAD);
    }

    private static void onlyThought() {
        // T3: "(All that follows is only thought, from now on, z as it is,"
        // T3: ": nothing changes.)"
        Whole.alike("T3: nothing changes", Stories.busyThen(EdgesOfHoursTest::thinks), Stories::busy);
        NoonVows x = Stories.behind(Stories::busy);
        NoonVows y = Stories.behind(Stories::busy);
        y.hours(60);
        for (int what = 0; what < 3; what++) {
            Due.is("T3: from now on, z as it is", x.behind(60, what), y.land(what));
            Due.is("T3: the same again", x.behind(60, what), y.land(what));
        }
        x.seed(78);
        y = Stories.behind(Stories::busy);
        y.seed(78);
        y.hours(60);
        for (int what = 0; what < 3; what++) {
            Due.is("T3: z as it is now", x.behind(60, what), y.land(what));
        }
    }

    private static void thinks(NoonVows x) {
        x.behind(100, 0);
        x.free();
        for (int what = 0; what < 2; what++) {
            x.sworn(40, what);
            x.trust(60, what);
            x.debtor(60, what);
            x.clock(1, 3, what);
        }
    }

    /** The next HOUR would be 10000, which is 16 by 24: the NOON of 0, at EAST 4; 1 pays 0 in it. */
    private static void withoutTheBoundOfTheHour() {
        // T3: "without the bound of THE HOUR"
        NoonVows x = new NoonVows();
        x.person(0, 4, 0);
        x.person(0, 5, 0);
        Stories.lastHour(x);
        x.vow(0, 1, 0);
        x.vow(1, 0, 2);
        Due.is("T3: BEHIND 0 HOURS", x.behind(0, 0), 2);
        Due.is("T3: BEHIND 1 HOUR", x.behind(1, 0), 1);
        Due.is("T3: PURSE BEHIND 1 HOUR", x.behind(1, 3), 2);
        Due.is("T3: LAPSED BEHIND 2 HOURS", x.behind(2, 2), 2);
        Due.is("T3: FREE", x.free(), 2);
        Due.is("T3: SWORN", x.sworn(1, 0), 10);
        Due.is("T3: SWORN, VOWS", x.sworn(1, 1), 2);
        Due.is("T3: TRUST", x.trust(1, 1), 2);
        Due.is("T3: DEBTOR", x.debtor(1, 0), 1);
        Due.is("T3: DEBTOR, by", x.debtor(1, 1), 2);
        Stories.row(x, 0, 0, 1, 0);
        Due.is("T3: CLOCK", x.clock(0, 0, 0), 4);
        Due.is("T3: CLOCK, differences", x.clock(0, 0, 1), 0);
        Due.is("T3: THE HOUR stays", x.count(2), 9999);
    }

    private static void behindHours() {
        // 16: "BEHIND n (0 .. 100) HOURS: what 0 VOWS, 1 KEPT, 2 LAPSED; 3 and k: PURSE of the one with number k."
        // T3: "BEHIND n HOURS: how many VOWS; KEPT; LAPSED; PURSE of one."
        NoonVows x = Stories.behind(Stories.vowers(10));
        Tapes.text(x, "keep 100*(w=2)");
        x.vow(9, 0, 2);
        x.vow(8, 9, 1);
        x.set(0, 3, 30);
        int[][] due = {{0, 2, 0, 0, 30, 0}, {1, 2, 0, 0, 32, -2}, {11, 2, 0, 0, 52, -22}, {12, 1, 1, 1, 54, -24}, {100, 1, 4, 1, 230, -200}};
        for (int[] row : due) {
            for (int what = 0; what < 4; what++) {
                Due.is("16: BEHIND " + row[0] + ", what " + what, x.behind(row[0], what), row[what + 1]);
            }
            Due.is("16: PURSE of the last one BEHIND " + row[0], x.behind(row[0], 12), row[5]);
        }
        NoonVows none = new NoonVows();
        for (int what = 0; what < 3; what++) {
            Due.is("16: nothing there yet", none.behind(100, what), 0);
        }
    }

    private static void behindIsRefused() {
        // 16: "BAD."
        Refused.beyond("16: n", Stories::busy, 0, 100, (x, v) -> x.behind(v, 0));
        Refused.beyond("16: what, 7 of the PEOPLE", Stories::busy, 0, 9, (x, v) -> x.behind(1, v));
        Refused.beyond("16: what, 10 of the PEOPLE", Stories::tenPeople, 0, 12, (x, v) -> x.behind(0, v));
        Refused.beyond("16: what, nobody yet", Stories::nothing, 0, 2, (x, v) -> x.behind(0, v));
    }

    private static void freeFirst() {
        // 17: "FREE."
        // T3: "FREE: behind how many HOURS (0 .. 300) there are no VOWS first."
        Due.is("T3: no VOWS now, no PEOPLE", new NoonVows().free(), 0);
        NoonVows x = Stories.behind(Stories.vowers(2));
        Due.is("T3: no VOWS now", x.free(), 0);
        Tapes.text(x, "keep 0");
        x.set(1, 1, 12);
        x.vow(0, 1, 0);
        Due.is("T3: at NOON 12", x.free(), 12);
        x.vow(1, 0, 0);
        Due.is("T3: at NOON 0, the last of two", x.free(), 24);
        x.hours(12);
        Due.is("T3: from now on", x.free(), 12);
        // 17: "NONE: not by then."
        Tapes.text(x, "keep 100");
        Refused.by("17: NONE", EdgesOfHoursTest::givesForEver, y -> y.free(), NoonVows.NONE);
        Due.is("17: NONE", x.free(), NoonVows.NONE);
    }

    private static void givesForEver(NoonVows x) {
        Stories.busy(x);
        Tapes.text(x, "keep 100");
        x.vow(0, 3, 0);
    }

    private static void freeAtTheEdge() {
        // T3: "(0 .. 300)"
        // 17: "NONE: not by then."
        int seed = 0;
        while (noonsKept(seed) != 12) {
            seed++;
        }
        int[][] rows = {{23, 299}, {0, 300}, {1, NoonVows.NONE}};
        for (int[] row : rows) {
            NoonVows x = Stories.behind(Stories.vowers(2));
            x.set(0, 1, row[0]);
            Tapes.text(x, "keep 80");
            x.vow(0, 1, 0);
            x.seed(seed);
            Due.is("17: kept at 12 noons, gone at the next, EAST " + row[0], x.free(), row[1]);
        }
    }

    private static int noonsKept(int seed) {
        int z = Stories.drawn(seed);
        int kept = 0;
        while (kept < 20 && (z >>> 8) % 100 < 80) {
            z = Stories.drawn(z);
            kept++;
        }
        return kept;
    }

    private static void swornOfTwo() {
        // 18: "SWORN for n (1 .. 40): what 0 the two, 1 VOWS then."
        // T3: "SWORN for n: of two unlike ones the pair with which, if the first gave the second a marriage now"
        // T3: "VOWS are most behind n HOURS; 10 times the first, and the second; of several the least."
        NoonVows x = Stories.behind(Stories.vowers(2));
        Due.is("18: all alike, the least pair", x.sworn(1, 0), 1);
        Due.is("18: VOWS then", x.sworn(1, 1), 1);
        Tapes.text(x, "keep 100*(w=0)");
        Due.is("18: a marriage, n 40", x.sworn(40, 1), 1);
        NoonVows y = new NoonVows();
        for (int k = 0; k < 10; k++) {
            y.person(k == 9 ? 0 : 5, 13, 99);
        }
        Due.is("18: only that of the last one lasts", y.sworn(1, 0), 90);
        Due.is("18: VOWS then", y.sworn(1, 1), 1);
        y.turns(4, 0);
        Due.is("18: of several the least", y.sworn(1, 0), 40);
        y.turns(0, 0);
        Due.is("18: the least, unlike ones", y.sworn(1, 0), 1);
        NoonVows z = new NoonVows();
        z.person(0, 13, 0);
        z.person(0, 4, 0);
        Due.is("18: BEHIND 15 HOURS that of 1 is there, NOON 16", z.sworn(15, 0), 10);
        Due.is("18: BEHIND 16 HOURS none is", z.sworn(16, 0), 1);
        Due.is("18: BEHIND 16 HOURS none is", z.sworn(16, 1), 0);
    }

    /** The VOW of 0 is judged with the first draw, below 10, and the one more with the second, below 90. */
    private static void swornBehindAllOthers() {
        // T3: "(as one more VOW, behind all others;"
        int seed = 0;
        while (!isFirstBelowTen(seed)) {
            seed++;
        }
        NoonVows x = new NoonVows();
        x.person(0, 13, 10);
        x.person(0, 13, 90);
        Tapes.text(x, "keep f");
        x.vow(0, 1, 1);
        x.seed(seed);
        Due.is("T3: both stay if 1 gives", x.sworn(1, 1), 2);
        Due.is("T3: 1 gives", x.sworn(1, 0), 10);
    }

    private static boolean isFirstBelowTen(int seed) {
        int first = (Stories.drawn(seed) >>> 8) % 100;
        int second = (Stories.drawn(Stories.drawn(seed)) >>> 8) % 100;
        return first < 10 && second >= 10 && second < 90;
    }

    private static void swornThoughThereAreSixteen() {
        // T3: "though there are 16),"
        NoonVows x = Stories.behind(Stories::sixteenVows);
        Tapes.text(x, "keep 100");
        Due.is("T3: 17 VOWS", x.sworn(40, 1), 17);
        Due.is("T3: who gave in this HOUR is not STRUCK OFF", x.sworn(40, 0), 1);
        Due.is("T3: 16 are there", x.count(1), 16);
        Tapes.text(x, "keep 100*(w=0)");
        Due.is("T3: 8 marriages and one more", x.sworn(40, 1), 9);
    }

    private static void swornIsRefused() {
        // 18: "BAD;"
        Refused.beyond("18: n", Stories::busy, 1, 40, (x, v) -> x.sworn(v, 0));
        Refused.beyond("18: what", Stories::busy, 0, 1, (x, v) -> x.sworn(1, v));
        // 18: "NONE: there are no two."
        for (int what = 0; what < 2; what++) {
            int it = what;
            Refused.by("18: nobody", Stories::nothing, x -> x.sworn(1, it), NoonVows.NONE);
            Refused.by("18: only one", Stories.vowers(1), x -> x.sworn(40, it), NoonVows.NONE);
        }
        Due.holds("18: two", Stories.behind(Stories.vowers(2)).sworn(1, 0) == 1);
        Refused.by("18: BAD n, ahead of NONE", Stories.vowers(1), x -> x.sworn(0, 0), NoonVows.BAD);
        Refused.by("18: BAD n, ahead of NONE", Stories.vowers(1), x -> x.sworn(41, 0), NoonVows.BAD);
        Refused.by("18: BAD what, ahead of NONE", Stories.vowers(1), x -> x.sworn(1, 2), NoonVows.BAD);
    }

    private static void trustOfOne() {
        // 19: "TRUST for n (1 .. 60): what 0 the one, 1 VOWS then."
        // T3: "TRUST for n: the one with whose FAITH 99 now VOWS are most behind n HOURS; of several the least."
        NoonVows x = new NoonVows();
        x.person(0, 13, 0);
        Due.is("19: one alone", x.trust(1, 0), 0);
        Due.is("19: no VOWS then", x.trust(60, 1), 0);
        NoonVows y = Stories.behind(Stories.vowers(10));
        Tapes.text(y, "keep 100*(f=99)");
        y.vow(9, 0, 0);
        Due.is("19: the last one, with FAITH 99", y.trust(60, 0), 9);
        Due.is("19: VOWS then", y.trust(60, 1), 1);
        y.vow(4, 0, 0);
        Due.is("19: of several the least", y.trust(60, 0), 4);
        Due.is("19: VOWS then", y.trust(60, 1), 1);
        y.hours(1);
        y.vow(9, 0, 0);
        Due.is("19: the most VOWS", y.trust(60, 0), 9);
        Due.is("19: VOWS then", y.trust(60, 1), 2);
        Due.is("19: ahead of all noons the least one", y.trust(10, 0), 0);
        Due.is("19: ahead of all noons all VOWS", y.trust(10, 1), 3);
        Due.is("19: at noon", y.trust(11, 0), 9);
    }

    private static void trustIsRefused() {
        // 19: "BAD;"
        Refused.beyond("19: n", Stories::busy, 1, 60, (x, v) -> x.trust(v, 0));
        Refused.beyond("19: what", Stories::busy, 0, 1, (x, v) -> x.trust(1, v));
        // 19: "NONE: there are no PEOPLE."
        Refused.by("19: nobody", Stories::nothing, x -> x.trust(1, 0), NoonVows.NONE);
        Refused.by("19: nobody", Stories::nothing, x -> x.trust(60, 1), NoonVows.NONE);
        Refused.by("19: BAD n, ahead of NONE", Stories::nothing, x -> x.trust(0, 0), NoonVows.BAD);
        Refused.by("19: BAD n, ahead of NONE", Stories::nothing, x -> x.trust(61, 0), NoonVows.BAD);
        Refused.by("19: BAD what, ahead of NONE", Stories::nothing, x -> x.trust(1, -1), NoonVows.BAD);
    }

    private static void debtorOfAll() {
        // 20: "DEBTOR for n (1 .. 60): what 0 the one, 1 by how much."
        // T3: "DEBTOR for n: the one whose PURSE behind n HOURS is less than now by most"
        // T3: "of several the least."
        NoonVows x = Stories.behind(Stories.vowers(10));
        Due.is("20: nobody pays, the least", x.debtor(60, 0), 0);
        Due.is("20: by 0", x.debtor(60, 1), 0);
        Tapes.text(x, "keep 100");
        x.vow(9, 0, 2);
        Due.is("20: the last one", x.debtor(1, 0), 9);
        Due.is("20: by 2", x.debtor(1, 1), 2);
        Due.is("20: n 60", x.debtor(60, 1), 120);
        x.vow(3, 0, 2);
        Due.is("20: of several the least", x.debtor(60, 0), 3);
        x.set(9, 3, 9999);
        x.set(3, 3, -9999);
        Due.is("20: 3 has the least already: less than now", x.debtor(60, 0), 9);
        Due.is("20: less than now", x.debtor(60, 1), 120);
    }

    /** Both have the least PURSE: the SOLDIER pays first, 5, and is paid 2 then. */
    private static void debtorMayBeBelowZero() {
        // T3: "(may be below 0);"
        NoonVows x = new NoonVows();
        x.person(0, 0, 99);
        x.person(3, 0, 99);
        x.set(0, 3, -9999);
        x.set(1, 3, -9999);
        x.vow(1, 0, 2);
        x.vow(0, 1, 2);
        Due.is("T3: 0 has 3 more, 1 has 2 more", x.debtor(1, 1), -2);
        Due.is("T3: so it is 1", x.debtor(1, 0), 1);
    }

    private static void debtorIsRefused() {
        // 20: "BAD;"
        Refused.beyond("20: n", Stories::busy, 1, 60, (x, v) -> x.debtor(v, 0));
        Refused.beyond("20: what", Stories::busy, 0, 1, (x, v) -> x.debtor(1, v));
        // 20: "NONE: there are no PEOPLE."
        Refused.by("20: nobody", Stories::nothing, x -> x.debtor(1, 0), NoonVows.NONE);
        Refused.by("20: nobody", Stories::nothing, x -> x.debtor(60, 1), NoonVows.NONE);
        Refused.by("20: BAD n, ahead of NONE", Stories::nothing, x -> x.debtor(0, 0), NoonVows.BAD);
        Refused.by("20: BAD n, ahead of NONE", Stories::nothing, x -> x.debtor(61, 0), NoonVows.BAD);
        Refused.by("20: BAD what, ahead of NONE", Stories::nothing, x -> x.debtor(1, 2), NoonVows.BAD);
    }

    /** One VOW of 0, which goes at the first NOON of 0. */
    private static NoonVows oneVow() {
        NoonVows x = Stories.behind(Stories.vowers(10));
        Tapes.text(x, "keep 0");
        x.vow(0, 1, 0);
        return x;
    }

    private static void clockByEast() {
        // 21: "CLOCK by a SHEET, for one: what 0 the EAST, 1 the differences, together."
        // T3: "CLOCK by a SHEET, for one: the EAST 0 .. 23 with which how many VOWS it has given that are there behind k HOURS (k from 0 on)"
        for (int noon = 1; noon <= 24; noon++) {
            NoonVows x = oneVow();
            x.sheet(3, noon % 2, 24);
            for (int k = 0; k < noon && k < 24; k++) {
                x.mark(3, k, 1);
            }
            Due.is("21: the EAST for NOON " + noon % 24, x.clock(3, 0, 0), (noon + 12) % 24);
            Due.is("21: the differences", x.clock(3, 0, 1), 0);
            Due.is("21: EAST stays", x.told(0, 1), 0);
        }
        NoonVows y = oneVow();
        Stories.row(y, 0, 0, 0);
        Due.is("21: behind 0 HOURS all are there", y.clock(0, 0, 1), 1);
        Due.is("21: with any EAST, so the least", y.clock(0, 0, 0), 0);
        Due.is("21: another one, which gave none", y.clock(0, 9, 1), 0);
    }

    private static void clockByNumbers() {
        // T3: "and places k that are numbers differ least (signs left out), together; of several the least."
        NoonVows x = oneVow();
        x.sheet(0, 1, 0);
        Due.is("21: no places, the least EAST", x.clock(0, 0, 0), 0);
        Due.is("21: no places, no differences", x.clock(0, 0, 1), 0);
        x.sheet(0, 1, 12);
        for (int k = 0; k < 12; k++) {
            x.mark(0, k, NoonVows.NONE);
        }
        Due.is("21: no numbers, the least EAST", x.clock(0, 0, 0), 0);
        Due.is("21: no numbers, no differences", x.clock(0, 0, 1), 0);
        x.mark(0, 11, 0);
        Due.is("21: gone behind 11 HOURS, the least EAST is 13", x.clock(0, 0, 0), 13);
        Due.is("21: no differences", x.clock(0, 0, 1), 0);
    }

    private static void clockTogether() {
        // T3: "differ least (signs left out), together;"
        int[][] rows = {{1, -99999, 13, 24 * 99999 + 1}, {1, 99999, 12, 24 * 99998}, {0, -32768, 13, 24 * 32768 + 1}, {0, 32767, 12, 24 * 32766}};
        for (int[] row : rows) {
            NoonVows x = oneVow();
            x.sheet(0, row[0], 24);
            for (int k = 0; k < 24; k++) {
                x.mark(0, k, row[1]);
            }
            Due.is("21: the EAST by " + row[1], x.clock(0, 0, 0), row[2]);
            Due.is("21: the differences by " + row[1], x.clock(0, 0, 1), row[3]);
        }
        NoonVows y = oneVow();
        Stories.row(y, 0, 0, 2, -1, 3, 0);
        Due.is("21: 1 and 2 and 2 and 0 for NOON 3; 1 and 1 and 3 and 0 for NOON 1", y.clock(0, 0, 1), 5);
        Due.is("21: of several the least, NOON 1", y.clock(0, 0, 0), 13);
    }

    private static void clockIsRefused() {
        // 21: "BAD;"
        Refused.beyond("21: one", Stories::busy, 0, 6, (x, v) -> x.clock(0, v, 0));
        Refused.beyond("21: what", Stories::busy, 0, 1, (x, v) -> x.clock(0, 0, v));
        Refused.beyond("21: sheet", Stories.busyThen(x -> x.sheet(3, 0, 1)), 0, 3, (x, v) -> x.clock(v, 0, 0));
        Refused.by("21: nobody yet", x -> x.sheet(0, 0, 1), x -> x.clock(0, 0, 0), NoonVows.BAD);
        // 21: "NOTHING."
        Refused.by("21: MISSING", Stories::busy, x -> x.clock(3, 0, 0), NoonVows.NOTHING);
        Refused.by("21: MISSING again", Stories.busyThen(x -> x.sheet(0, -1, 0)), x -> x.clock(0, 0, 1), NoonVows.NOTHING);
        Refused.by("21: BAD one, ahead of NOTHING", Stories::busy, x -> x.clock(3, 7, 0), NoonVows.BAD);
        Refused.by("21: BAD what, ahead of NOTHING", Stories::busy, x -> x.clock(3, 0, 2), NoonVows.BAD);
        Refused.by("21: nothing there yet, BAD", Stories::nothing, x -> x.clock(0, 0, 0), NoonVows.BAD);
    }

    private static void feeGives() {
        // 22: "What fee gives."
        NoonVows x = Stories.behind(Stories::sixteenVows);
        Due.is("22: without a TEXT, none LAPSED", x.fee(), 0);
        x.breaks(0);
        Due.is("22: without a TEXT, LAPSED", x.fee(), 1);
        Tapes.text(x, "keep 100");
        x.hours(11);
        Due.is("22: without a TEXT, not KEPT", x.fee(), 1);
        Tapes.text(x, "fee k*1000-l");
        Due.is("22: by KEPT and LAPSED", x.fee(), 14999);
        Tapes.text(x, "fee 0-l*0-1024*1024*2048");
        Due.is("22: the least int is told as it is", x.fee(), Integer.MIN_VALUE);
        Due.is("22: no VOWS yet", new NoonVows().fee(), 0);
        Whole.alike("22: nothing changes", Stories.busyThen(y -> y.fee()), Stories::busy);
    }

    private static void fineGives() {
        // 23: "What fine gives for one."
        NoonVows x = Stories.behind(Stories.vowers(10));
        Due.is("23: without a TEXT, PURSE at first", x.fine(0), 0);
        x.set(0, 3, -9999);
        x.set(9, 3, 9999);
        x.set(9, 1, 23);
        Due.is("23: without a TEXT, the least PURSE", x.fine(0), -9999);
        Due.is("23: without a TEXT, the greatest PURSE", x.fine(9), 9999);
        Tapes.text(x, "fine p*100+e");
        Due.is("23: by PURSE and EAST", x.fine(0), -999900);
        Due.is("23: by PURSE and EAST", x.fine(9), 999923);
        Tapes.text(x, "fine p*p*p");
        Due.is("23: it wraps", x.fine(9), 9999 * 9999 * 9999);
        Due.is("23: it wraps", x.fine(0), -9999 * 9999 * 9999);
        Whole.alike("23: nothing changes", Stories.busyThen(y -> y.fine(0)), Stories::busy);
    }

    private static void fineIsRefused() {
        // 23: "BAD."
        Refused.beyond("23: one", Stories::busy, 0, 6, (x, v) -> x.fine(v));
        Refused.by("23: nobody yet", Stories::nothing, x -> x.fine(0), NoonVows.BAD);
    }
}
