/** Promises 13 to 23. */
public final class HoursTest {
    public static void main(String[] args) {
        hours();
        hoursCallByNumbers();
        hoursPay();
        hoursEnd();
        land();
        reaches();
        behind();
        free();
        sworn();
        trust();
        debtor();
        clock();
        feeAndFine();
        Due.end();
    }

    private static int draw(int z) {
        return z * 1103515245 + 12345;
    }

    private static void hours() {
        NoonVows x = new NoonVows();
        Due.is("13: n", x.hours(0), NoonVows.BAD);
        Due.is("13: n", x.hours(101), NoonVows.BAD);
        Due.is("13: THE HOUR stays", x.count(2), 0);
        x.person(0, 0, 99);
        x.person(5, 0, 99);
        x.vow(0, 1, 0);
        Due.is("13: none at noon yet", x.hours(11), 0);
        Due.is("13: THE HOUR", x.count(2), 11);
        Due.is("13: no draw yet", x.count(7), 1);
        x.hours(1);
        Due.is("13: a draw at noon", x.count(7), draw(1));
        Due.is("13: the draw has the rest 54, below 94", x.land(1), 1);
        x.turns(0, 5);
        x.hours(23);
        Due.is("13: VOWS of a STRUCK one at its noon", x.hours(1), 1);
        Due.is("13: they draw too", x.count(7), draw(draw(1)));
        Due.is("13: LAPSED", x.land(2), 1);
        Due.is("13: LAPSED in them alone", x.hours(5), 0);
    }

    /** Two of one giver at one noon: the second is judged with the VOWS that are there by then. */
    private static void hoursCallByNumbers() {
        boolean otherwiseOnce = false;
        for (int seed = 0; seed < 300; seed++) {
            NoonVows x = new NoonVows();
            x.person(0, 13, 55);
            x.person(0, 0, 0);
            x.hours(1);
            x.vow(0, 1, 0);
            x.hours(1);
            x.vow(0, 1, 1);
            x.hours(22);
            Due.is("13: both are there", x.count(1), 2);
            x.seed(seed);
            x.hours(1);
            int first = (draw(seed) >>> 8) % 100;
            int second = (draw(draw(seed)) >>> 8) % 100;
            boolean firstStays = first < 45;
            boolean secondStays = second < (firstStays ? 45 : 50);
            otherwiseOnce |= !firstStays && second >= 45 && second < 50;
            Due.is("13: VOWS with seed " + seed, x.count(1), (firstStays ? 1 : 0) + (secondStays ? 1 : 0));
            Due.is("13: draws with seed " + seed, x.count(7), draw(draw(seed)));
            if (x.count(1) == 1) {
                Due.is("13: which is left", x.vowOf(0, 2), firstStays ? 0 : 1);
            }
        }
        Due.holds("13: a seed with which it tells", otherwiseOnce);
    }

    private static void hoursPay() {
        NoonVows x = new NoonVows();
        x.person(3, 17, 99);
        x.person(0, 12, 99);
        x.vow(0, 1, 2);
        x.hours(3);
        Due.is("13: a SOLDIER pays 5", x.told(0, 3), -15);
        Due.is("13: to the other one", x.told(1, 3), 15);
        x.set(0, 3, -9997);
        x.set(1, 3, 9990);
        x.hours(2);
        Due.is("13: held within", x.told(0, 3), -9999);
        Due.is("13: it is paid all the same", x.told(1, 3), 9999);
        x.turns(0, 1);
        x.set(0, 3, 0);
        x.hours(1);
        Due.is("13: PAYS by the KIND that it is of now", x.told(0, 3), -1);
        x.breaks(0);
        x.hours(1);
        Due.is("13: no debt, no pay", x.told(0, 3), -1);
        x.vow(0, 1, 1);
        x.hours(1);
        Due.is("13: a service pays nothing", x.told(0, 3), -1);
        NoonVows y = new NoonVows();
        y.person(0, 13, 0);
        y.person(0, 0, 0);
        y.vow(0, 1, 2);
        Due.is("13: what lapses at noon", y.hours(1), 1);
        Due.is("13: is not paid for in that HOUR", y.told(0, 3), 0);
    }

    private static void hoursEnd() {
        NoonVows x = new NoonVows();
        x.person(0, 3, 99);
        x.person(0, 2, 99);
        for (int k = 0; k < 99; k++) {
            x.hours(100);
        }
        Due.is("13: THE HOUR", x.count(2), 9900);
        x.vow(0, 1, 2);
        x.hours(100);
        Due.is("13: up to 9999", x.count(2), 9999);
        int purse = x.told(1, 3);
        Due.is("13: no more", x.hours(1), 0);
        Due.is("13: no more", x.told(1, 3), purse);
        x.vow(1, 0, 2);
        Due.is("7: in this HOUR still", x.vow(1, 0, 2), NoonVows.NONE);
        Due.is("13: the VOW of 0 is there still", x.count(1), 1);
        Due.is("16: thought goes beyond 9999", x.behind(1, 4), purse + 2);
    }

    private static NoonVows ring(int many) {
        NoonVows x = new NoonVows();
        for (int k = 0; k < 10; k++) {
            x.person(0, k, 99);
        }
        for (int k = 0; k < many; k++) {
            x.vow(k, (k + 1) % 10, 0);
        }
        return x;
    }

    private static void land() {
        NoonVows x = ring(10);
        Due.is("14: VOWS", x.land(0), 10);
        Due.is("14: givers", x.land(3), 1023);
        Due.is("14: takers", x.land(4), 1023);
        Due.is("14: CHAIN: nobody comes twice", x.land(5), 9);
        x.breaks(4);
        Due.is("14: givers", x.land(3), 1023 - 16);
        Due.is("14: takers", x.land(4), 1023 - 32);
        Due.is("14: CHAIN over the end", x.land(5), 9);
        x.breaks(0);
        Due.is("14: CHAIN of what is left", x.land(5), 5);
        Due.is("14: LAPSED", x.land(2), 2);
        Due.is("14: KEPT", x.land(1), 0);
        Due.is("14: what", x.land(6), NoonVows.BAD);
        Due.is("14: what", x.land(-1), NoonVows.BAD);
        NoonVows first = ring(1);
        Due.is("14: CHAIN from 0", first.land(5), 1);
        first.eclipse();
        Due.is("14: CHAIN of none", first.land(5), 0);
        Due.is("15: by none", first.reaches(0, 1), NoonVows.NONE);
        NoonVows y = ring(0);
        y.vow(0, 1, 0);
        y.vow(1, 0, 0);
        y.vow(2, 0, 0);
        y.vow(3, 1, 0);
        Due.is("14: CHAIN there and back", y.land(5), 2);
    }

    private static void reaches() {
        NoonVows x = ring(9);
        Due.is("15: itself", x.reaches(9, 9), 0);
        Due.is("15: all", x.reaches(0, 9), 9);
        Due.is("15: not back", x.reaches(9, 0), NoonVows.NONE);
        x.hours(1);
        x.vow(2, 8, 1);
        Due.is("15: the fewest", x.reaches(0, 9), 4);
        Due.is("15: one", x.reaches(10, 0), NoonVows.BAD);
        Due.is("15: one", x.reaches(-1, 0), NoonVows.BAD);
        Due.is("15: other", x.reaches(0, 10), NoonVows.BAD);
        Due.is("15: other", x.reaches(0, -1), NoonVows.BAD);
    }

    private static NoonVows debts() {
        NoonVows x = new NoonVows();
        x.person(0, 0, 90);
        x.person(1, 6, 60);
        x.person(4, 12, 70);
        x.person(3, 18, 80);
        for (int k = 0; k < 4; k++) {
            x.vow(k, (k + 1) % 4, 2);
        }
        return x;
    }

    private static void behind() {
        for (int n = 0; n <= 100; n++) {
            NoonVows x = debts();
            NoonVows y = debts();
            if (n > 0) {
                y.hours(n);
            }
            for (int what = 0; what < 3; what++) {
                Due.is("16: BEHIND " + n, x.behind(n, what), y.land(what));
            }
            for (int k = 0; k < 4; k++) {
                Due.is("16: PURSE BEHIND " + n, x.behind(n, 3 + k), y.told(k, 3));
            }
        }
        NoonVows x = debts();
        x.behind(100, 0);
        Due.is("16: nothing changes", x.count(2), 0);
        Due.is("16: nothing changes", x.count(7), 1);
        Due.is("16: nothing changes", x.land(2), 0);
        Due.is("16: n", x.behind(-1, 0), NoonVows.BAD);
        Due.is("16: n", x.behind(101, 0), NoonVows.BAD);
        Due.is("16: what", x.behind(0, -1), NoonVows.BAD);
        Due.is("16: what", x.behind(0, 7), NoonVows.BAD);
        Due.is("16: what", x.behind(0, Integer.MAX_VALUE), NoonVows.BAD);
    }

    private static void free() {
        NoonVows x = debts();
        int wanted = x.free();
        Due.holds("17: within", wanted > 0 && wanted <= 300);
        NoonVows y = debts();
        int hour = 0;
        while (y.count(1) > 0) {
            y.hours(1);
            hour++;
        }
        Due.is("17: FREE", wanted, hour);
        Due.is("17: nothing changes", x.count(1), 4);
        x.eclipse();
        Due.is("17: at once", x.free(), 0);
        NoonVows z = new NoonVows();
        z.person(0, 12, 50);
        z.person(0, 0, 50);
        Tapes.text(z, "keep 100");
        z.vow(0, 1, 0);
        Due.is("17: never", z.free(), NoonVows.NONE);
        NoonVows atNoon = new NoonVows();
        atNoon.person(0, 0, 0);
        atNoon.person(0, 0, 0);
        atNoon.vow(0, 1, 0);
        Due.is("17: FREE at its noon", atNoon.free(), 12);
        freeAtTheEdge();
    }

    /** A seed with which a VOW is kept at 12 noons and goes at the 13th, which is HOUR 300, or 301. */
    private static void freeAtTheEdge() {
        int seed = 0;
        while (seed < 100000 && noonsKept(seed) != 12) {
            seed++;
        }
        Due.is("17: a seed was found", noonsKept(seed), 12);
        for (int east = 0; east < 2; east++) {
            NoonVows x = new NoonVows();
            x.person(0, east, 85);
            x.person(0, 0, 0);
            x.vow(0, 1, 0);
            x.seed(seed);
            Due.is("17: at the edge", x.free(), east == 0 ? 300 : NoonVows.NONE);
        }
    }

    private static int noonsKept(int seed) {
        int z = draw(seed);
        int kept = 0;
        while (kept < 100 && (z >>> 8) % 100 < 80) {
            z = draw(z);
            kept++;
        }
        return kept;
    }

    private static void sworn() {
        NoonVows x = new NoonVows();
        Due.is("18: nobody", x.sworn(1, 0), NoonVows.NONE);
        x.person(0, 13, 0);
        Due.is("18: no two", x.sworn(40, 1), NoonVows.NONE);
        Due.is("18: BAD is ahead", x.sworn(0, 0), NoonVows.BAD);
        Due.is("18: n", x.sworn(41, 0), NoonVows.BAD);
        Due.is("18: what", x.sworn(1, 2), NoonVows.BAD);
        Due.is("18: what", x.sworn(1, -1), NoonVows.BAD);
        x.person(0, 13, 0);
        Due.is("18: there are two", x.sworn(1, 0), 1);
        x.person(0, 14, 0);
        Due.is("18: only of 2 it lasts an hour", x.sworn(1, 0), 20);
        Due.is("18: VOWS then", x.sworn(1, 1), 1);
        Due.is("18: all go, so the least pair", x.sworn(2, 0), 1);
        Due.is("18: VOWS then", x.sworn(2, 1), 0);
        Due.is("18: nothing changes", x.count(1), 0);
        Tapes.text(x, "keep 100*(w=0)");
        Due.is("18: it is a marriage", x.sworn(40, 1), 1);
        NoonVows y = new NoonVows();
        for (int k = 0; k < 10; k++) {
            y.person(0, 0, 99);
        }
        for (int k = 0; k < 16; k++) {
            y.vow(k % 8, 9, 0);
            if (k == 7) {
                y.hours(1);
            }
        }
        Due.is("18: though there are 16", y.sworn(1, 1), 17);
        Due.is("18: of several the least", y.sworn(1, 0), 1);
        Due.is("18: gives for it are not struck off", y.count(3), 0);
        Tapes.text(y, "keep 0");
        Due.is("18: all 17 go", y.sworn(40, 1), 0);
    }

    private static void trust() {
        NoonVows x = new NoonVows();
        Due.is("19: nobody", x.trust(1, 0), NoonVows.NONE);
        Due.is("19: nobody", x.trust(60, 1), NoonVows.NONE);
        Due.is("19: n", x.trust(0, 0), NoonVows.BAD);
        Due.is("19: n", x.trust(61, 0), NoonVows.BAD);
        Due.is("19: what", x.trust(1, 2), NoonVows.BAD);
        Due.is("19: what", x.trust(1, -1), NoonVows.BAD);
        x.person(0, 13, 0);
        x.person(1, 12, 0);
        x.person(1, 12, 0);
        Due.is("19: of several the least", x.trust(1, 0), 0);
        x.vow(1, 0, 0);
        Due.is("19: whose VOW it is", x.trust(1, 0), 1);
        Due.is("19: VOWS then", x.trust(1, 1), 1);
        Due.is("19: FAITH stays", x.told(1, 2), 0);
        x.vow(2, 0, 0);
        x.set(2, 2, 99);
        Due.is("19: the one", x.trust(1, 0), 1);
        Due.is("19: both VOWS then", x.trust(1, 1), 2);
    }

    private static void debtor() {
        NoonVows x = new NoonVows();
        Due.is("20: nobody", x.debtor(1, 0), NoonVows.NONE);
        Due.is("20: nobody", x.debtor(60, 1), NoonVows.NONE);
        Due.is("20: n", x.debtor(0, 0), NoonVows.BAD);
        Due.is("20: n", x.debtor(61, 0), NoonVows.BAD);
        Due.is("20: what", x.debtor(1, 2), NoonVows.BAD);
        Due.is("20: what", x.debtor(1, -1), NoonVows.BAD);
        x.person(0, 0, 99);
        x.person(3, 0, 99);
        x.person(0, 0, 99);
        Due.is("20: of several the least", x.debtor(5, 0), 0);
        Due.is("20: by 0", x.debtor(5, 1), 0);
        x.set(1, 3, 500);
        x.vow(1, 0, 2);
        x.vow(0, 2, 2);
        Due.is("20: the SOLDIER", x.debtor(5, 0), 1);
        Due.is("20: by 25", x.debtor(5, 1), 25);
        NoonVows y = new NoonVows();
        y.person(0, 0, 99);
        y.person(0, 0, 99);
        y.set(0, 3, -9999);
        y.vow(0, 1, 2);
        Due.is("20: 0 cannot lose, 1 gains", y.debtor(3, 1), 0);
        y.vow(1, 0, 2);
        Due.is("20: 0 gains 0, 1 loses 0", y.debtor(3, 0), 1);
    }

    private static void clock() {
        NoonVows x = new NoonVows();
        x.person(1, 20, 0);
        x.person(0, 0, 0);
        Due.is("21: NOTHING", x.clock(0, 0, 0), NoonVows.NOTHING);
        Due.is("21: BAD is ahead", x.clock(0, 2, 0), NoonVows.BAD);
        Due.is("21: sheet", x.clock(-1, 0, 0), NoonVows.BAD);
        Due.is("21: sheet", x.clock(4, 0, 0), NoonVows.BAD);
        Due.is("21: one", x.clock(0, -1, 0), NoonVows.BAD);
        Due.is("21: what", x.clock(0, 0, -1), NoonVows.BAD);
        Due.is("21: what", x.clock(0, 0, 2), NoonVows.BAD);
        x.sheet(0, 0, 0);
        Due.is("21: no places, the least", x.clock(0, 0, 0), 0);
        Due.is("21: no places, 0", x.clock(0, 0, 1), 0);
        x.turns(0, 0);
        x.vow(0, 1, 0);
        x.sheet(0, 1, 6);
        for (int k = 0; k < 6; k++) {
            x.mark(0, k, k < 4 ? 1 : 0);
        }
        Due.is("21: gone behind 4 hours: noon is 4, EAST 16", x.clock(0, 0, 0), 16);
        Due.is("21: all alike", x.clock(0, 0, 1), 0);
        x.mark(0, 4, NoonVows.NONE);
        Due.is("21: place 4 is NO NUMBER: 16 or 17", x.clock(0, 0, 0), 16);
        x.mark(0, 3, -2);
        Due.is("21: signs left out, gone behind 3", x.clock(0, 0, 0), 15);
        Due.is("21: 0 and -2", x.clock(0, 0, 1), 2);
        Due.is("21: another one gives none", x.clock(0, 1, 1), 5);
        x.sheet(3, 0, 15);
        for (int east = 0; east < 3; east++) {
            for (int k = 0; k < 15; k++) {
                x.mark(3, k, k < 12 + east ? 1 : 0);
            }
            Due.is("21: EAST", x.clock(3, 0, 0), east);
            Due.is("21: EAST", x.clock(3, 0, 1), 0);
        }
        Due.is("21: nothing changes", x.told(0, 1), 20);
        Due.is("21: nothing changes", x.count(1), 1);
    }

    private static void feeAndFine() {
        NoonVows x = debts();
        x.hours(60);
        Due.holds("22: both are there", x.land(1) > 0 && x.land(2) > 0);
        Due.is("22: without a TEXT", x.fee(), x.land(2));
        Due.is("23: without a TEXT", x.fine(0), x.told(0, 3));
        Tapes.text(x, "fine 100*p-e");
        Tapes.text(x, "fee 100*k+l");
        Due.is("22: with one", x.fee(), 100 * x.land(1) + x.land(2));
        for (int k = 0; k < 4; k++) {
            Due.is("23: with one", x.fine(k), 100 * x.told(k, 3) - x.told(k, 1));
        }
        Due.is("23: one", x.fine(4), NoonVows.BAD);
        Due.is("23: one", x.fine(-1), NoonVows.BAD);
    }
}
