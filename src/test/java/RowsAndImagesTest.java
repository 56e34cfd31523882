/** Promises 38 to 42. */
public final class RowsAndImagesTest {
    public static void main(String[] args) {
        tell();
        check();
        checkByTheImage();
        checkAtTheEnd();
        keepAndBack();
        whatAnImageLeavesOut();
        count();
        Due.end();
    }

    private static void tell() {
        NoonVows x = new NoonVows();
        for (int k = 1; k <= 60; k++) {
            Due.is("38: how many", x.tell(-k), k);
        }
        Due.is("38: FULL", x.tell(0), NoonVows.FULL);
        Due.is("38: 60", x.count(5), 60);
    }

    private static NoonVows pair() {
        NoonVows x = new NoonVows();
        x.person(0, 13, 60);
        x.person(1, 12, 60);
        x.person(2, 14, 99);
        x.vow(0, 1, 0);
        x.vow(1, 2, 1);
        x.vow(2, 0, 1);
        x.breaks(2);
        x.vow(0, 1, 0);
        x.turns(0, 0);
        x.hours(10);
        x.vow(0, 1, 2);
        x.vow(2, 1, 2);
        return x;
    }

    /** THE HOURS TOLD, from another object that went the same way. */
    private static int[] hoursTold(int n) {
        return Stories.hoursTold(pair(), n);
    }

    private static void tellFirst(NoonVows x, int[] rows, int many) {
        for (int k = 0; k < many; k++) {
            x.tell(rows[k]);
        }
    }

    private static void check() {
        NoonVows x = pair();
        int[] rows = hoursTold(30);
        Due.holds("39: LAPSED is not 0 ahead of it", rows[1] > 0);
        x.tell(4);
        Due.is("39: NO", x.check(1), NoonVows.NO);
        Due.is("39: none wait then", x.count(5), 0);
        x.tell(4);
        Due.is("39: BAD is ahead of NO", x.check(0), NoonVows.BAD);
        Due.is("39: none wait then", x.count(5), 0);
        x.keep();
        x.tell(4);
        Due.is("39: n", x.check(31), NoonVows.BAD);
        Due.is("39: none wait then", x.count(5), 0);
        Due.is("39: all are missing", x.check(1), 1);
        for (int n = 1; n <= 30; n++) {
            x = pair();
            x.keep();
            tellFirst(x, rows, 2 * n);
            Due.is("39: right", x.check(n), 0);
            Due.is("39: none wait then", x.count(5), 0);
            tellFirst(x, rows, 2 * n - 1);
            Due.is("39: the last is missing", x.check(n), 2 * n);
            if (n < 30) {
                tellFirst(x, rows, 2 * n + 1);
                Due.is("39: one too many", x.check(n), 2 * n + 1);
            }
            int[] wrong = rows.clone();
            wrong[n]++;
            tellFirst(x, wrong, 60);
            Due.is("39: one is not right", x.check(30), n + 1);
        }
    }

    private static void checkByTheImage() {
        NoonVows x = pair();
        int[] rows = hoursTold(30);
        Tapes.text(x, "fee 1");
        x.keep();
        Tapes.text(x, "keep 0");
        x.seed(99);
        x.hours(50);
        x.eclipse();
        tellFirst(x, rows, 60);
        Due.is("39: by THE IMAGE, with its TEXTS", x.check(30), 0);
        Due.is("39: nothing changes", x.count(2), 60);
        Due.is("39: nothing changes", x.back(), 3);
        Due.is("39: nothing changes in THE IMAGE", x.count(2), 10);
    }

    private static void checkAtTheEnd() {
        NoonVows x = new NoonVows();
        for (int k = 0; k < 99; k++) {
            x.hours(100);
        }
        x.hours(98);
        x.keep();
        x.tell(0);
        x.tell(0);
        Due.is("39: only one HOUR is left", x.check(30), 0);
        x.tell(0);
        x.tell(0);
        x.tell(0);
        Due.is("39: one too many", x.check(30), 3);
        x.hours(1);
        x.keep();
        Due.is("39: none is left", x.check(1), 0);
        x.tell(0);
        Due.is("39: none is left", x.check(1), 1);
    }

    private static void keepAndBack() {
        NoonVows x = pair();
        Due.is("41: NO", x.back(), NoonVows.NO);
        Tapes.text(x, "fee 7");
        x.set(1, 3, 123);
        Due.is("40: PEOPLE", x.keep(), 3);
        int[] counts = new int[8];
        for (int what = 0; what < 8; what++) {
            counts[what] = x.count(what);
        }
        int kept = x.land(1);
        int lapsed = x.land(2);
        for (int again = 0; again < 3; again++) {
            x.person(0, 1, 1);
            x.set(3, 3, 77);
            x.vow(3, 1, 1);
            Tapes.text(x, "fee 8");
            Tapes.text(x, "keep 9");
            x.turns(1, 3);
            x.set(1, 1, 1);
            x.set(1, 2, 1);
            x.set(1, 3, 1);
            x.vow(1, 2, 0);
            x.hours(30);
            x.eclipse();
            Due.is("41: PEOPLE", x.back(), 3);
            for (int what = 0; what < 8; what++) {
                Due.is("41: count " + what, x.count(what), counts[what]);
            }
            Due.is("41: KEPT", x.land(1), kept);
            Due.is("41: LAPSED", x.land(2), lapsed);
            Due.is("41: KIND", x.told(1, 0), 1);
            Due.is("41: EAST", x.told(1, 1), 12);
            Due.is("41: FAITH", x.told(1, 2), 60);
            Due.is("41: PURSE", x.told(1, 3), 123);
            Due.is("41: TEXTS", x.fee(), 7);
            Due.is("41: TEXTS", x.why(0), NoonVows.NONE);
            Due.is("41: VOWS", x.vowOf(x.count(1) - 1, 0), 2);
            Due.is("41: VOWS", x.vowOf(x.count(1) - 1, 2), 2);
        }
        Due.is("41: who gave in this HOUR", x.vow(2, 0, 0), NoonVows.NONE);
        Due.is("41: who did not", x.vow(1, 0, 0) >= 0 ? 1 : 0, 1);
        x.back();
        Due.is("41: who did not", x.vow(1, 0, 0) >= 0 ? 1 : 0, 1);
        x.back();
        x.person(4, 4, 4);
        Due.is("2: one that comes behind back is new", x.told(3, 3), 0);
        Due.holds("2: one that comes behind back gave none", x.vow(3, 0, 0) >= 0);
        Due.is("40: another IMAGE", x.keep(), 4);
        x.turns(0, 2);
        Due.is("41: it is that one", x.back(), 4);
        Due.is("41: it is that one", x.told(0, 0), 0);
    }

    private static void whatAnImageLeavesOut() {
        NoonVows x = pair();
        x.sheet(0, 0, 1);
        x.mark(0, 0, 5);
        x.keep();
        x.sheet(0, 0, 2);
        x.mark(0, 1, 6);
        x.lay(0, 3, 9);
        x.lay(1, 1, 2);
        x.tell(1);
        x.feed(0, 0, 0);
        x.back();
        x.lay(2, 2, 0);
        Due.is("40: not SHEETS", x.item(2, 1), 6);
        Due.is("40: not SLOTS", x.rest(0, 10), 9);
        Due.is("40: not SLOTS", x.ask(1, 2), 0);
        Due.is("40: not numbers that wait", x.count(5), 1);
        Due.is("40: not THE TAPE", x.count(6), 12);
    }

    private static void count() {
        NoonVows x = new NoonVows();
        x.deal(4);
        x.turns(0, 5);
        x.turns(1, 5);
        x.turns(2, 0);
        x.turns(3, 1);
        x.vow(2, 0, 0);
        x.vow(3, 0, 0);
        x.breaks(0);
        x.hours(1);
        Tapes.text(x, "fee 1");
        Tapes.text(x, "fee 2");
        x.tell(3);
        x.tell(3);
        x.tell(3);
        x.feed(0, 0, 0);
        x.trim(5);
        x.seed(-8);
        int[] counts = {4, 1, 1, 2, 2, 3, 5, -8};
        for (int what = 0; what < 8; what++) {
            Due.is("42: " + what, x.count(what), counts[what]);
        }
        Due.is("42: what", x.count(8), NoonVows.BAD);
        Due.is("42: what", x.count(-1), NoonVows.BAD);
    }
}
