/** The edges that the Terms name ahead of their parts (T0), in 1 PEOPLE (T1) and in 2 AN HOUR (T2). */
public final class EdgesOfTermsTest {
    public static void main(String[] args) {
        calls512();
        wholeNumbers();
        refusedChangesNothing();
        none();
        sets();
        tenPeople();
        eastFaithPurse();
        purseIsHeldWithin();
        kindsUnderOneAnother();
        sixteenVows();
        laterVowsMoveDown();
        unlikePeople();
        whats();
        atFirst();
        keepsOfAVower();
        keepsWithoutAText();
        keepsOfTheOthers();
        keepsIsByItsOne();
        noons();
        pays();
        worths();
        struckOff();
        anHour();
        vowsAtNoon();
        belowKeeps();
        vowsThatAreThereByThen();
        debtsByNumbers();
        draws();
        drawnPeople();
        Due.end();
    }

    private static void calls512() {
        // W: "An object is used for at most 512 calls after it has been made; what later calls answer is free."
        NoonVows x = new NoonVows();
        for (int k = 1; k <= 512; k++) {
            Due.is("W: call " + k, x.seed(k + 1), k);
        }
        NoonVows dearest = Stories.behind(Stories::sixteenVows);
        Tapes.text(dearest, "keep 100");
        int made = 10 + 8 + 1 + 8 + 4;
        for (int k = made; k < 512; k++) {
            Due.is("W: the dearest calls, " + k, dearest.sworn(40, 1), 17);
        }
    }

    private static void wholeNumbers() {
        // T0: "All numbers are whole; / cuts towards 0."
        int[][] cuts = {{7, 2, 3}, {8, 2, 4}, {1, 2, 0}, {0, 2, 0}};
        for (int[] cut : cuts) {
            Due.is("T0: cut", fee("" + cut[0] + "/" + cut[1]), cut[2]);
            Due.is("T0: cut, below 0", fee("(0-" + cut[0] + ")/" + cut[1]), -cut[2]);
            Due.is("T0: cut, by below 0", fee(cut[0] + "/(0-" + cut[1] + ")"), -cut[2]);
            Due.is("T0: cut, both below 0", fee("(0-" + cut[0] + ")/(0-" + cut[1] + ")"), cut[2]);
        }
    }

    private static int fee(String text) {
        NoonVows x = new NoonVows();
        Tapes.text(x, "fee " + text);
        return x.fee();
    }

    private static void refusedChangesNothing() {
        // T0: "A call that is refused answers one of BAD, NO, FULL, or a FINDING, of several the one that stands first with it, and changes nothing (but the tape and the numbers that wait, where told)."
        Refused.by("T0: BAD", Stories::busy, x -> x.person(6, 0, 0), NoonVows.BAD);
        Refused.by("T0: NO", Stories::busy, x -> x.vow(5, 0, 0), NoonVows.NO);
        Refused.by("T0: FULL", Stories::tenPeople, x -> x.person(0, 0, 0), NoonVows.FULL);
        Refused.by("T0: a FINDING", Stories::busy, x -> x.mark(3, 0, 0), NoonVows.NOTHING);
        Refused.by("T0: BAD stands ahead of FULL", Stories::tenPeople, x -> x.person(6, 0, 0), NoonVows.BAD);
        Whole.alike("T0: but the tape", Stories.busyThen(EdgesOfTermsTest::readsAFault), Stories.busyThen(x -> x.trim(0)));
        Whole.alike("T0: but the numbers that wait", Stories.busyThen(x -> x.check(0)), Stories.busyThen(x -> x.check(1)));
    }

    private static void readsAFault(NoonVows x) {
        Due.is("T0: a FAULT", Tapes.text(x, "fee ?"), -104);
    }

    private static void none() {
        // T0: "NONE: there is none."
        NoonVows x = new NoonVows();
        Due.is("T0: no TEXT", x.why(0), NoonVows.NONE);
        Due.is("T0: no PEOPLE", x.trust(1, 0), NoonVows.NONE);
    }

    private static void sets() {
        // T0: "Sets of PEOPLE are told as bits (bit k for number k)."
        NoonVows x = Stories.behind(Stories.vowers(10));
        Due.is("T0: nobody", x.land(3), 0);
        x.vow(9, 0, 0);
        Due.is("T0: bit 9", x.land(3), 512);
        Due.is("T0: bit 0", x.land(4), 1);
        x.vow(0, 9, 0);
        Due.is("T0: both", x.land(3), 513);
        x.hours(1);
        x.vow(0, 9, 0);
        Due.is("T0: twice is once", x.land(3), 513);
        Due.is("T0: twice is once", x.land(4), 513);
    }

    private static void tenPeople() {
        // T1: "PEOPLE, 10 at most, numbered from 0:"
        NoonVows x = new NoonVows();
        for (int k = 0; k < 10; k++) {
            Due.is("T1: numbered from 0", x.person(0, 0, 0), k);
        }
        Due.is("T1: 10 at most", x.person(0, 0, 0), NoonVows.FULL);
        Due.is("T1: 10", x.count(0), 10);
    }

    private static void eastFaithPurse() {
        // T1: "EAST 0 .. 23, FAITH 0 .. 99,"
        Refused.beyond("T1: EAST", Stories::busy, 0, 23, (x, v) -> x.person(0, v, 0));
        Refused.beyond("T1: FAITH", Stories::busy, 0, 99, (x, v) -> x.person(0, 0, v));
        // T1: "PURSE -9999 .. 9999 (0 at first;"
        Refused.beyond("T1: PURSE", Stories::busy, -9999, 9999, (x, v) -> x.set(0, 3, v));
        NoonVows x = new NoonVows();
        x.person(3, 0, 0);
        Due.is("T1: 0 at first", x.told(0, 3), 0);
        x.deal(1);
        Due.is("T1: 0 at first, drawn", x.told(1, 3), 0);
        x.keep();
        x.person(0, 0, 0);
        x.set(2, 3, 77);
        x.back();
        x.person(0, 0, 0);
        Due.is("T1: 0 at first, where one was that is gone by back", x.told(2, 3), 0);
    }

    private static void purseIsHeldWithin() {
        // T1: "held within this, whatever is paid),"
        int[][] least = {{-9996, -9998}, {-9997, -9999}, {-9998, -9999}, {-9999, -9999}};
        for (int[] purse : least) {
            NoonVows x = debt();
            x.set(0, 3, purse[0]);
            x.hours(1);
            Due.is("T1: the least PURSE, from " + purse[0], x.told(0, 3), purse[1]);
            Due.is("T1: it is paid all the same", x.told(1, 3), 2);
        }
        int[][] most = {{9996, 9998}, {9997, 9999}, {9998, 9999}, {9999, 9999}};
        for (int[] purse : most) {
            NoonVows x = debt();
            x.set(1, 3, purse[0]);
            x.hours(1);
            Due.is("T1: the greatest PURSE, from " + purse[0], x.told(1, 3), purse[1]);
            Due.is("T1: it is paid all the same", x.told(0, 3), -2);
        }
    }

    private static NoonVows debt() {
        NoonVows x = Stories.behind(Stories.vowers(2));
        x.vow(0, 1, 2);
        return x;
    }

    private static void kindsUnderOneAnother() {
        // T1: "and of KINDS: 0 VOWER; 1 LATE, 2 SLEEPER, 5 STRUCK, under VOWER; 3 SOLDIER, under LATE; 4 PRIEST, under SLEEPER (all are VOWERS)."
        Refused.beyond("T1: KINDS", Stories::busy, 0, 5, (x, v) -> x.person(v, 0, 0));
        NoonVows x = Stories.behind(Stories::kinds);
        String[] isOf = {"0", "01", "02", "013", "024", "05"};
        for (int one = 0; one < 6; one++) {
            for (int kind = 0; kind < 6; kind++) {
                boolean is = isOf[one].indexOf('0' + kind) >= 0;
                Due.holds("T1: " + one + " is of " + kind, is == (x.as(one, kind) == x.told(one, 2)));
                Due.holds("T1: " + one + " is of " + kind, is == (x.as(one, kind) != NoonVows.KIND));
            }
        }
    }

    private static void sixteenVows() {
        // T1: "VOWS, 16 at most, numbered from 0"
        NoonVows x = Stories.behind(Stories.vowers(10));
        for (int k = 0; k < 16; k++) {
            if (k == 8) {
                x.hours(1);
            }
            Due.is("T1: numbered from 0", x.vow(k % 8, 9, 0), k);
        }
        Due.is("T1: 16 at most", x.vow(8, 9, 0), NoonVows.FULL);
        Due.is("T1: 16", x.count(1), 16);
        Due.is("T1: the last one is there", x.vowOf(15, 0), 7);
    }

    private static void laterVowsMoveDown() {
        // T1: "(when one goes the later ones have a number less by 1):"
        for (int gone = 0; gone < 16; gone++) {
            NoonVows x = Stories.behind(Stories::sixteenVows);
            x.breaks(gone);
            for (int vow = 0; vow < 15; vow++) {
                int was = vow < gone ? vow : vow + 1;
                Due.is("T1: without " + gone + ", ONE of " + vow, x.vowOf(vow, 0), was % 8);
                Due.is("T1: without " + gone + ", WHAT of " + vow, x.vowOf(vow, 2), was / 8);
            }
            Due.is("T1: none has number 15", x.vowOf(15, 0), NoonVows.BAD);
        }
    }

    private static void unlikePeople() {
        // T1: "ONE, OTHER (unlike PEOPLE),"
        for (int one = 0; one < 7; one++) {
            int it = one;
            Refused.by("T1: to itself", Stories::busy, x -> x.vow(it, it, 0), NoonVows.BAD);
        }
    }

    private static void whats() {
        // T1: "WHAT 0 .. 2 (0 a marriage, 1 a service, 2 a debt)."
        Refused.beyond("T1: WHAT", Stories::busy, 0, 2, (x, v) -> x.vow(0, 1, v));
        for (int what = 0; what < 3; what++) {
            NoonVows x = Stories.behind(Stories.vowers(2));
            x.vow(0, 1, what);
            x.hours(1);
            Due.is("T1: WHAT", x.vowOf(0, 2), what);
            Due.is("T1: only a debt is paid", x.told(0, 3), what == 2 ? -2 : 0);
        }
    }

    private static void atFirst() {
        // T1: "KEPT, LAPSED are 0 at first."
        NoonVows x = new NoonVows();
        Due.is("T1: KEPT", x.land(1), 0);
        Due.is("T1: LAPSED", x.land(2), 0);
        // T1: "THE HOUR is 0 at first, 9999 at most."
        Due.is("T1: THE HOUR at first", x.count(2), 0);
        Stories.lastHour(x);
        Due.is("T1: THE HOUR at most", x.count(2), 9999);
        Due.is("T1: no HOUR goes by then", x.hours(1), 0);
        Due.is("T1: THE HOUR at most", x.count(2), 9999);
    }

    /** One of a KIND with one VOW given, for which keep gives what the text says. */
    private static int keeps(int kind, String text) {
        NoonVows x = new NoonVows();
        x.person(kind, 0, 50);
        x.person(0, 0, 50);
        if (kind == 5) {
            x.turns(0, 0);
        }
        x.vow(0, 1, 0);
        x.turns(0, kind);
        Tapes.text(x, "keep " + text);
        return x.vowOf(0, 3);
    }

    private static void keepsOfAVower() {
        // T1: "KEEPS (of a VOW, by its ONE): VOWER: what keep gives, held within 0 .. 100"
        int[][] helds = {{-9999, 0}, {-1, 0}, {0, 0}, {1, 1}, {99, 99}, {100, 100}, {101, 100}, {9999, 100}};
        for (int[] held : helds) {
            String text = held[0] < 0 ? "0-" + -held[0] : "" + held[0];
            Due.is("T1: KEEPS by keep " + text, keeps(0, text), held[1]);
        }
        Due.is("T1: the least int", keeps(0, "0-1024*1024*2048"), 0);
        Due.is("T1: the greatest int", keeps(0, "1024*1024*2048-1"), 100);
    }

    private static void keepsWithoutAText() {
        // T1: "(without a TEXT: FAITH less 5 times how many VOWS it has given that are there, 0 at least)."
        int[][] rows = {{0, 0, 0}, {4, 0, 0}, {5, 0, 0}, {6, 1, 0}, {10, 5, 0}, {11, 6, 1}, {99, 94, 89}};
        for (int[] row : rows) {
            NoonVows x = Stories.behind(Stories.vowers(2));
            x.set(0, 2, row[0]);
            x.vow(0, 1, 0);
            Due.is("T1: FAITH " + row[0] + ", one VOW", x.vowOf(0, 3), row[1]);
            x.hours(1);
            x.vow(0, 1, 0);
            Due.is("T1: FAITH " + row[0] + ", two VOWS", x.vowOf(0, 3), row[2]);
            x.breaks(0);
            Due.is("T1: those that are there", x.vowOf(0, 3), row[1]);
        }
    }

    private static void keepsOfTheOthers() {
        // T1: "LATE: as VOWER, and 10 (100 at most)."
        int[][] lates = {{0, 10}, {89, 99}, {90, 100}, {91, 100}, {100, 100}};
        for (int[] row : lates) {
            Due.is("T1: LATE, " + row[0], keeps(1, "" + row[0]), row[1]);
        }
        // T1: "SOLDIER: half (cut) of as LATE."
        int[][] soldiers = {{0, 5}, {1, 5}, {2, 6}, {88, 49}, {89, 49}, {90, 50}, {100, 50}};
        for (int[] row : soldiers) {
            Due.is("T1: SOLDIER, " + row[0], keeps(3, "" + row[0]), row[1]);
        }
        // T1: "SLEEPER: as VOWER, less 20 (0 at least)."
        int[][] sleepers = {{0, 0}, {19, 0}, {20, 0}, {21, 1}, {100, 80}};
        for (int[] row : sleepers) {
            Due.is("T1: SLEEPER, " + row[0], keeps(2, "" + row[0]), row[1]);
        }
        // T1: "PRIEST: as SLEEPER, and 30 (100 at most)."
        int[][] priests = {{0, 30}, {20, 30}, {21, 31}, {89, 99}, {90, 100}, {91, 100}, {100, 100}};
        for (int[] row : priests) {
            Due.is("T1: PRIEST, " + row[0], keeps(4, "" + row[0]), row[1]);
        }
        // T1: "STRUCK: 0."
        for (int gives : new int[] {0, 1, 100}) {
            Due.is("T1: STRUCK, " + gives, keeps(5, "" + gives), 0);
        }
    }

    private static void keepsIsByItsOne() {
        // T1: "KEEPS (of a VOW, by its ONE)"
        NoonVows x = new NoonVows();
        x.person(0, 0, 80);
        x.person(1, 0, 20);
        x.vow(0, 1, 0);
        Due.is("T1: by its ONE, not its OTHER", x.vowOf(0, 3), 75);
    }

    /** NOON by EAST for each KIND, at all 24. */
    private static void noons() {
        // T1: "NOON: VOWER: 12 and EAST, the rest by 24."
        noonsOf(0, 12);
        // T1: "LATE: one hour later than as VOWER (0 behind 23)."
        noonsOf(1, 13);
        // T1: "SOLDIER: six hours later than as LATE (likewise)."
        noonsOf(3, 19);
        // T1: "(SLEEPER, PRIEST, STRUCK as VOWER.)"
        noonsOf(2, 12);
        noonsOf(4, 12);
        noonsOf(5, 12);
    }

    private static void noonsOf(int kind, int atEastZero) {
        NoonVows x = new NoonVows();
        x.person(kind, 0, 0);
        int noon = atEastZero;
        for (int east = 0; east < 24; east++) {
            x.set(0, 1, east);
            Due.is("T1: NOON of KIND " + kind + " at EAST " + east, x.told(0, 6), noon);
            noon = noon == 23 ? 0 : noon + 1;
        }
    }

    private static void pays() {
        // T1: "PAYS: VOWER: 2. LATE: 1. SOLDIER: as LATE, and 4. SLEEPER: 0. PRIEST: as SLEEPER. STRUCK: 9."
        int[] due = {2, 1, 0, 5, 0, 9};
        for (int kind = 0; kind < 6; kind++) {
            NoonVows x = debt();
            x.turns(0, kind);
            Due.is("T1: PAYS of KIND " + kind, x.told(0, 7), due[kind]);
            x.hours(1);
            Due.is("T1: paid by KIND " + kind, x.told(0, 3), -due[kind]);
            Due.is("T1: paid by KIND " + kind, x.told(1, 3), due[kind]);
        }
    }

    private static void worths() {
        // T1: "WORTH: VOWER: FAITH. LATE: as VOWER, and 6. SOLDIER: twice as LATE. SLEEPER: 99 less FAITH. PRIEST: as SLEEPER, less 5. STRUCK: 1."
        // T1: "(A KIND that is not named does as the one above it.)"
        int[] least = {0, 6, 99, 12, 94, 1};
        int[] most = {99, 105, 0, 210, -5, 1};
        for (int kind = 0; kind < 6; kind++) {
            NoonVows x = new NoonVows();
            x.person(kind, 0, 0);
            Due.is("T1: WORTH of KIND " + kind + ", FAITH 0", x.told(0, 8), least[kind]);
            x.set(0, 2, 99);
            Due.is("T1: WORTH of KIND " + kind + ", FAITH 99", x.told(0, 8), most[kind]);
        }
    }

    private static void struckOff() {
        // T1: "STRUCK OFF: its KIND becomes 5, and all VOWS that it has given go (each LAPSED 1 more)."
        for (int others = 0; others < 3; others++) {
            NoonVows x = Stories.behind(Stories.vowers(4));
            x.vow(3, 0, 2);
            for (int k = 0; k < others; k++) {
                x.hours(1);
                x.vow(0, 1, 1);
            }
            x.hours(1);
            x.vow(0, 2, 1);
            x.vow(2, 0, 0);
            x.vow(0, 1, 0);
            Due.is("T1: its KIND", x.told(0, 0), 5);
            Due.is("T1: all that it has given go, " + (others + 1), x.land(2), others + 1);
            Due.is("T1: none of its own is there", x.told(0, 4), 0);
            Due.is("T1: those given to it stay", x.told(0, 5), 2);
            Due.is("T1: those of others stay, by numbers", x.vowOf(0, 0), 3);
            Due.is("T1: those of others stay, by numbers", x.vowOf(1, 0), 2);
        }
    }

    private static void anHour() {
        // T2: "AN HOUR: (1) THE HOUR is 1 more."
        NoonVows x = new NoonVows();
        for (int k = 1; k <= 50; k++) {
            x.hours(1);
            Due.is("T2: THE HOUR", x.count(2), k);
        }
    }

    private static void vowsAtNoon() {
        // T2: "(2) VOWS by numbers whose ONE has its NOON now (THE HOUR, the rest by 24):"
        for (int east = 0; east < 24; east++) {
            NoonVows x = new NoonVows();
            x.person(0, east, 0);
            x.person(0, 0, 0);
            x.vow(0, 1, 0);
            int noon = (12 + east) % 24;
            int first = noon == 0 ? 24 : noon;
            Due.is("T2: ahead of its NOON, EAST " + east, first == 1 ? 0 : x.hours(first - 1), 0);
            Due.is("T2: no draw ahead of its NOON", x.count(7), 1);
            Due.is("T2: at its NOON, EAST " + east, x.hours(1), 1);
            Due.is("T2: a draw at its NOON", x.count(7), Stories.drawn(1));
        }
        NoonVows y = new NoonVows();
        y.person(0, 13, 0);
        y.person(0, 0, 0);
        Tapes.text(y, "keep 100");
        y.vow(0, 1, 0);
        y.hours(100);
        Due.is("T2: NOON 1 at HOURS 1, 25, 49, 73, 97", y.land(1), 5);
    }

    /** A VOW whose ONE has its NOON in the next HOUR, judged with this rest against these KEEPS: whether it stays. */
    private static boolean stays(int rest, int keeps) {
        NoonVows x = new NoonVows();
        x.person(0, 13, 0);
        x.person(0, 0, 0);
        x.vow(0, 1, 0);
        Tapes.text(x, "keep " + keeps);
        x.seed(Stories.seedWithRest(rest));
        boolean stays = x.hours(1) == 0;
        Due.is("T2: KEPT 1 more if it stays", x.land(1), stays ? 1 : 0);
        Due.is("T2: LAPSED 1 more if it goes", x.land(2), stays ? 0 : 1);
        Due.is("T2: VOWS", x.count(1), stays ? 1 : 0);
        return stays;
    }

    private static void belowKeeps() {
        // T2: "a draw; if its rest by 100 is below KEEPS (with the VOWS that are there by then) it is made anew (KEPT 1 more; it stays), else it goes (LAPSED 1 more)."
        Due.holds("T2: 0 is not below 0", !stays(0, 0));
        Due.holds("T2: 0 is below 1", stays(0, 1));
        Due.holds("T2: 49 is below 50", stays(49, 50));
        Due.holds("T2: 50 is not below 50", !stays(50, 50));
        Due.holds("T2: 51 is not below 50", !stays(51, 50));
        Due.holds("T2: 98 is below 99", stays(98, 99));
        Due.holds("T2: 99 is not below 99", !stays(99, 99));
        Due.holds("T2: 99 is below 100", stays(99, 100));
    }

    private static void vowsThatAreThereByThen() {
        // T2: "(with the VOWS that are there by then)"
        NoonVows x = Stories.behind(Stories.vowers(2));
        x.set(0, 1, 14);
        Tapes.text(x, "keep 100*(n=1)");
        x.vow(0, 1, 0);
        x.hours(1);
        x.vow(0, 1, 1);
        Due.is("T2: two are there, so the first goes; then one is, so the second stays", x.hours(1), 1);
        Due.is("T2: the second stays", x.vowOf(0, 2), 1);
    }

    private static void debtsByNumbers() {
        // T2: "(3) VOWS by numbers that are debts: ONE pays what it PAYS to OTHER, from PURSE to PURSE."
        NoonVows x = Stories.behind(Stories.vowers(3));
        x.set(0, 3, 9999);
        x.vow(1, 0, 2);
        x.vow(0, 2, 2);
        x.hours(1);
        Due.is("T2: 0 is paid first, when it is full, and pays then", x.told(0, 3), 9997);
        NoonVows y = Stories.behind(Stories.vowers(3));
        y.set(0, 3, 9999);
        y.vow(0, 2, 2);
        y.vow(1, 0, 2);
        y.hours(1);
        Due.is("T2: 0 pays first and is paid then", y.told(0, 3), 9999);
        NoonVows z = Stories.behind(Stories.vowers(2));
        z.set(0, 1, 13);
        z.set(0, 2, 0);
        z.vow(0, 1, 2);
        z.hours(1);
        Due.is("T2: what went in (2) pays nothing in (3)", z.told(1, 3), 0);
    }

    private static void draws() {
        // T2: "z is told (1 at first)."
        Due.is("T2: z at first", new NoonVows().count(7), 1);
        // T2: "A draw: z becomes z * 1103515245 + 12345 (an int); it gives z >>> 8."
        int[] seeds = {Integer.MIN_VALUE, Integer.MAX_VALUE, -1, 0, 1, 1 << 30};
        for (int seed : seeds) {
            NoonVows x = new NoonVows();
            x.seed(seed);
            x.deal(1);
            long one = wrapped(seed * 1103515245L + 12345L);
            long two = wrapped(one * 1103515245L + 12345L);
            long three = wrapped(two * 1103515245L + 12345L);
            Due.is("T2: z wraps, from " + seed, x.count(7), three);
            Due.is("T2: KIND, never below 0", x.told(0, 0), ((one & 0xffffffffL) >> 8) % 6);
            Due.is("T2: EAST, never below 0", x.told(0, 1), ((two & 0xffffffffL) >> 8) % 24);
            Due.is("T2: FAITH, never below 0", x.told(0, 2), ((three & 0xffffffffL) >> 8) % 100);
        }
        NoonVows y = new NoonVows();
        y.person(0, 13, 0);
        y.person(0, 0, 0);
        y.vow(0, 1, 0);
        Tapes.text(y, "keep 0");
        int seed = 0;
        while (Stories.drawn(seed) >= 0) {
            seed++;
        }
        y.seed(seed);
        Due.is("T2: z below 0 gives a draw that is not below 0", y.hours(1), 1);
    }

    private static long wrapped(long v) {
        return (v + (1L << 31) & 0xffffffffL) - (1L << 31);
    }

    private static void drawnPeople() {
        // T2: "PEOPLE that are drawn: KIND the rest of a draw by 6, EAST that of one more by 24, FAITH that of one more by 100."
        boolean[][] came = {new boolean[6], new boolean[24], new boolean[100]};
        for (int seed = 0; seed < 400; seed++) {
            NoonVows x = new NoonVows();
            x.seed(seed * 7919);
            x.deal(10);
            for (int one = 0; one < 10; one++) {
                for (int what = 0; what < 3; what++) {
                    int v = x.told(one, what);
                    Due.holds("T2: within", v >= 0 && v < came[what].length);
                    came[what][v] = true;
                }
            }
        }
        for (boolean[] all : came) {
            for (boolean one : all) {
                Due.holds("T2: the least and the greatest come too", one);
            }
        }
    }
}
