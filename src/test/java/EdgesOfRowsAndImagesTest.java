/** The edges that AN IMAGE and THE HOURS TOLD in the Terms (T5) name, and those of promises 38 to 42. */
public final class EdgesOfRowsAndImagesTest {
    private static final int LEAST = Integer.MIN_VALUE, MOST = Integer.MAX_VALUE;

    public static void main(String[] args) {
        tellWaits();
        tellIsFull();
        hoursTold();
        checkIsRight();
        checkTellsTheFirstThatIsNot();
        checkIsMissing();
        checkIsOneTooMany();
        checkHasFewerHours();
        checkByTheImage();
        checkLeavesNoneWaiting();
        checkIsRefused();
        imageKeeps();
        imageLeavesOut();
        keepAnswers();
        backAgainAndAgain();
        backIsRefused();
        countTells();
        countIsRefused();
        Due.end();
    }

    private static void tellWaits() {
        // 38: "One more number waits: how many."
        NoonVows x = new NoonVows();
        Due.is("38: none waits yet", x.count(5), 0);
        int[] numbers = {LEAST, MOST, 0, -1, NoonVows.NONE};
        for (int k = 0; k < 60; k++) {
            Due.is("38: how many, any number", x.tell(numbers[k % 5]), k + 1);
            Due.is("38: how many", x.count(5), k + 1);
        }
    }

    private static void sixtyWait(NoonVows x) {
        Stories.busy(x);
        x.check(1);
        tellHours(x, 30, 60);
    }

    private static void tellIsFull() {
        // 38: "FULL: 60 wait."
        Refused.by("38: FULL", EdgesOfRowsAndImagesTest::sixtyWait, x -> x.tell(7), NoonVows.FULL);
        NoonVows x = Stories.behind(EdgesOfRowsAndImagesTest::sixtyWait);
        x.tell(7);
        Due.is("38: the 60 are as they were", x.check(30), 0);
        Due.is("38: room again behind check", x.tell(7), 1);
    }

    /** THE HOURS TOLD from the IMAGE of busy, from another object that goes on from it. */
    private static int[] busyHours(int n) {
        NoonVows y = Stories.behind(Stories::busy);
        y.back();
        return Stories.hoursTold(y, n);
    }

    /** The first many of THE HOURS TOLD of busy. */
    private static void tellHours(NoonVows x, int n, int many) {
        int[] rows = busyHours(n);
        for (int k = 0; k < many; k++) {
            x.tell(rows[k]);
        }
    }

    private static NoonVows busyWithoutWaiting() {
        NoonVows x = Stories.behind(Stories::busy);
        x.check(1);
        return x;
    }

    private static void hoursTold() {
        // T5: "THE HOURS TOLD: of n HOURS, one behind the other, by THE IMAGE: how many VOWS there are; LAPSED, behind each."
        NoonVows x = Stories.behind(Stories.vowers(2));
        x.set(0, 1, 14);
        x.vow(0, 1, 0);
        x.vow(1, 0, 0);
        x.breaks(1);
        Tapes.text(x, "keep 0");
        x.keep();
        int[] due = {1, 1, 0, 2, 0, 2};
        for (int number : due) {
            x.tell(number);
        }
        Due.is("T5: one is there, then none; LAPSED is 1 ahead, then 2", x.check(3), 0);
        Whole.alike("T5: only told, nothing changes", Stories.busyThen(y -> y.check(30)), Stories.busyThen(y -> y.check(1)));
    }

    private static void checkIsRight() {
        // 39: "The numbers that wait (none do then, whatever is answered) are THE HOURS TOLD of n"
        // 39: ", two by two: 0;"
        for (int n : new int[] {1, 2, 29, 30}) {
            NoonVows x = busyWithoutWaiting();
            tellHours(x, n, 2 * n);
            Due.is("39: right, n " + n, x.check(n), 0);
            Due.is("39: none wait then", x.count(5), 0);
        }
    }

    private static void checkTellsTheFirstThatIsNot() {
        // 39: "else 1 and how many stand right ahead of the first that is not"
        int[] rows = busyHours(30);
        for (int wrong = 0; wrong < 60; wrong++) {
            NoonVows x = busyWithoutWaiting();
            for (int k = 0; k < 60; k++) {
                x.tell(k < wrong ? rows[k] : k % 2 == 0 ? LEAST : rows[k] + 1);
            }
            Due.is("39: the first that is not, " + wrong, x.check(30), 1 + wrong);
            NoonVows y = busyWithoutWaiting();
            for (int k = 0; k < 60; k++) {
                y.tell(k == wrong ? rows[k] - 1 : rows[k]);
            }
            Due.is("39: the only one that is not, " + wrong, y.check(30), 1 + wrong);
        }
    }

    private static void checkIsMissing() {
        // 39: "(or is missing,"
        for (int many = 0; many < 60; many += many < 2 || many > 56 ? 1 : 9) {
            NoonVows x = busyWithoutWaiting();
            tellHours(x, 30, many);
            Due.is("39: " + many + " of 60", x.check(30), 1 + many);
        }
        Due.is("39: the first is missing", busyWithoutWaiting().check(1), 1);
        NoonVows y = busyWithoutWaiting();
        y.tell(MOST);
        Due.is("39: wrong ahead of missing", y.check(1), 1);
    }

    private static void checkIsOneTooMany() {
        // 39: "or one too many)."
        for (int n : new int[] {1, 2, 29}) {
            for (int more = 1; more <= 2; more++) {
                NoonVows x = busyWithoutWaiting();
                tellHours(x, 30, 2 * n + more);
                Due.is("39: " + more + " too many, n " + n, x.check(n), 2 * n + 1);
            }
        }
        NoonVows x = busyWithoutWaiting();
        tellHours(x, 30, 60);
        Due.is("39: 58 too many", x.check(1), 3);
        NoonVows y = busyWithoutWaiting();
        y.tell(MOST);
        y.tell(0);
        y.tell(0);
        Due.is("39: wrong ahead of too many", y.check(1), 1);
    }

    /** AN IMAGE at this HOUR, with two of the PEOPLE and no VOWS: each HOUR tells 0 and 0. */
    private static NoonVows imageAt(int hour) {
        NoonVows x = Stories.behind(Stories.vowers(2));
        for (int k = 0; k < 99; k++) {
            x.hours(100);
        }
        x.hours(hour - 9900);
        x.keep();
        return x;
    }

    private static void checkHasFewerHours() {
        // 39: "(1 .. 30; fewer, if THE HOUR would be above 9999)"
        int[][] rows = {{9968, 30}, {9969, 30}, {9970, 29}, {9997, 2}, {9998, 1}, {9999, 0}};
        for (int[] row : rows) {
            int due = 2 * row[1];
            for (int many = Math.max(0, due - 1); many <= Math.min(60, due + 1); many++) {
                NoonVows x = imageAt(row[0]);
                for (int k = 0; k < many; k++) {
                    x.tell(0);
                }
                Due.is("39: " + many + " from HOUR " + row[0], x.check(30), many == due ? 0 : 1 + Math.min(many, due));
            }
        }
        Due.is("39: no HOUR is left, none waits, n 1", imageAt(9999).check(1), 0);
        NoonVows x = imageAt(9999);
        x.tell(0);
        Due.is("39: no HOUR is left, one waits, n 1", x.check(1), 1);
        NoonVows y = imageAt(9998);
        y.hours(1);
        y.tell(0);
        y.tell(0);
        Due.is("39: by THE HOUR of THE IMAGE, not by that of now", y.check(1), 0);
    }

    private static void checkByTheImage() {
        // T5: "by THE IMAGE"
        NoonVows x = busyWithoutWaiting();
        Tapes.text(x, "keep 0");
        x.eclipse();
        x.seed(5);
        x.turns(0, 2);
        x.set(3, 1, 1);
        x.hours(40);
        tellHours(x, 30, 60);
        Due.is("T5: as it was kept, with its TEXTS", x.check(30), 0);
        x.keep();
        tellHours(x, 30, 60);
        Due.holds("T5: by the last IMAGE", x.check(30) != 0);
    }

    private static void checkLeavesNoneWaiting() {
        // 39: "(none do then, whatever is answered)"
        for (int n : new int[] {1, 2, 30, 0, 31, -1, LEAST, MOST}) {
            NoonVows x = Stories.behind(Stories::busy);
            x.check(n);
            Due.is("39: none wait then, n " + n, x.count(5), 0);
            NoonVows none = new NoonVows();
            none.tell(1);
            none.check(n);
            Due.is("39: none wait then, without an IMAGE, n " + n, none.count(5), 0);
            Due.is("39: the next is the first", none.tell(1), 1);
        }
    }

    private static void checkIsRefused() {
        // 39: "BAD;"
        for (int n : new int[] {0, 31, -1, LEAST, MOST}) {
            Due.is("39: n " + n, Stories.behind(Stories::busy).check(n), NoonVows.BAD);
            Due.is("39: n " + n + ", ahead of NO", new NoonVows().check(n), NoonVows.BAD);
            Whole.alike("39: BAD changes nothing but the numbers that wait", Stories.busyThen(x -> x.check(n)), Stories.busyThen(x -> x.check(1)));
        }
        // 39: "NO: there is no IMAGE."
        for (int n : new int[] {1, 30}) {
            Refused.by("39: NO", Stories.vowers(2), x -> x.check(n), NoonVows.NO);
            NoonVows x = new NoonVows();
            x.tell(0);
            Due.is("39: NO, though one waits", x.check(n), NoonVows.NO);
        }
    }

    /** Changes all that can be changed but what AN IMAGE leaves out; all that waits, lies or is fed stays. */
    private static void changesAll(NoonVows x) {
        for (int one = 0; one < x.count(0); one++) {
            x.set(one, 1, 1);
            x.set(one, 2, 2);
            x.set(one, 3, 3);
            x.turns(one, one % 5);
        }
        x.deal(2);
        x.vow(0, 1, 0);
        x.vow(2, 0, 1);
        x.vow(8, 0, 1);
        x.hours(30);
        x.vow(4, 0, 2);
        x.breaks(0);
        x.eclipse();
        x.vow(6, 5, 2);
        x.vow(6, 5, 2);
        x.seed(-5);
    }

    private static void imageKeeps() {
        // T5: "AN IMAGE keeps all but SHEETS, SLOTS, numbers that wait, THE TAPE;"
        // 41: "All is as THE IMAGE: how many PEOPLE."
        Whole.alike("T5: all is as it was kept", EdgesOfRowsAndImagesTest::keepsAndGoesBack, Stories.busyThen(x -> x.keep()));
        Whole.alike("T5: also TEXTS", EdgesOfRowsAndImagesTest::keepsTextsAndGoesBack, Stories.busyThen(EdgesOfRowsAndImagesTest::emptiesTapeAndKeeps));
        NoonVows x = Stories.behind(Stories::busy);
        Due.is("41: how many PEOPLE, not 7", x.back(), 6);
        Due.is("41: who gave one in this HOUR", x.vow(3, 0, 0), NoonVows.NONE);
    }

    private static void keepsAndGoesBack(NoonVows x) {
        Stories.busy(x);
        x.keep();
        changesAll(x);
        x.back();
    }

    private static void emptiesTapeAndKeeps(NoonVows x) {
        x.trim(0);
        x.keep();
    }

    private static void keepsTextsAndGoesBack(NoonVows x) {
        Stories.busy(x);
        emptiesTapeAndKeeps(x);
        for (int k = 0; k < 12; k++) {
            Tapes.text(x, new String[] {"keep 1", "fee 2", "fine 3"}[k % 3]);
        }
        x.back();
    }

    private static void imageLeavesOut() {
        // T5: "keeps all but SHEETS, SLOTS, numbers that wait, THE TAPE;"
        NoonVows x = Stories.behind(Stories::busy);
        x.mark(0, 0, 6);
        x.sheet(1, -1, 0);
        x.sheet(3, 0, 2);
        x.lay(0, 3, 8);
        x.lay(3, 0, 0);
        x.lay(1, 1, 6);
        x.tell(9);
        x.trim(5);
        x.back();
        Due.is("T5: not SHEETS", Stories.at(x, 0, 0), 6);
        Due.is("T5: not SHEETS", x.pour(1), NoonVows.NOTHING);
        Due.is("T5: not SHEETS", Stories.at(x, 3, 1), 0);
        Due.is("T5: not SLOTS", x.rest(0, 10), 8);
        Due.is("T5: not SLOTS", x.rest(3, 10), NoonVows.NOTHING);
        Due.is("T5: not SLOTS, one that is not there", x.ask(1, 1), 39);
        Due.is("T5: not numbers that wait", x.count(5), 5);
        Due.is("T5: not THE TAPE", x.count(6), 5);
        Due.is("T5: not THE TAPE: fee 7", x.text(), 2);
        Due.is("T5: not THE TAPE: fee 7", x.fee(), 7);
    }

    private static void keepAnswers() {
        // 40: "AN IMAGE is kept: how many PEOPLE."
        NoonVows x = new NoonVows();
        for (int many = 0; many <= 10; many++) {
            Due.is("40: how many PEOPLE", x.keep(), many);
            x.person(0, 0, many);
        }
        Due.is("40: the last IMAGE", x.back(), 10);
        Whole.alike("40: keep changes nothing else", EdgesOfRowsAndImagesTest::keepsTwice, Stories.busyThen(y -> y.keep()));
        NoonVows y = new NoonVows();
        y.keep();
        y.deal(10);
        Due.is("41: AN IMAGE without PEOPLE", y.back(), 0);
        Due.is("41: AN IMAGE without PEOPLE", y.count(0), 0);
        Due.is("41: z too", y.count(7), 1);
    }

    private static void keepsTwice(NoonVows x) {
        Stories.busy(x);
        x.keep();
        x.keep();
    }

    private static void backAgainAndAgain() {
        // T5: "all can become as it is (again and again)."
        NoonVows x = Stories.behind(Stories.vowers(2));
        x.vow(0, 1, 2);
        x.keep();
        for (int again = 0; again < 5; again++) {
            x.hours(5);
            x.deal(3);
            Tapes.text(x, "fee " + again);
            Due.is("T5: PEOPLE", x.back(), 2);
            Due.is("T5: THE HOUR", x.count(2), 0);
            Due.is("T5: PURSE", x.told(0, 3), 0);
            Due.is("T5: VOWS", x.count(1), 1);
            Due.is("T5: TEXTS", x.count(4), 0);
            Due.is("T5: fee without a TEXT", x.fee(), 0);
            Due.is("T5: at once again", x.back(), 2);
        }
        NoonVows full = new NoonVows();
        Stories.sixteenVows(full);
        full.keep();
        full.eclipse();
        full.back();
        Due.is("T5: 16 VOWS again", full.count(1), 16);
        Due.is("T5: the last of them", full.vowOf(15, 0), 7);
        NoonVows last = imageAt(9999);
        last.back();
        Due.is("T5: HOUR 9999 again", last.count(2), 9999);
        Due.is("T5: which is the last", last.hours(1), 0);
    }

    private static void backIsRefused() {
        // 41: "NO: there is none."
        Refused.by("41: nothing kept yet", Stories::nothing, x -> x.back(), NoonVows.NO);
        Refused.by("41: nothing kept yet", Stories::sixteenVows, x -> x.back(), NoonVows.NO);
    }

    private static void countTells() {
        // 42: "0 how many PEOPLE, 1 VOWS, 2 THE HOUR, 3 how many are STRUCK, 4 TEXTS, 5 numbers that wait, 6 bytes of THE TAPE, 7 z."
        NoonVows x = new NoonVows();
        int[] least = {0, 0, 0, 0, 0, 0, 0, 1};
        for (int what = 0; what < 8; what++) {
            Due.is("42: nothing there yet, what " + what, x.count(what), least[what]);
        }
        Stories.fourteenTexts(x);
        x.deal(8);
        Tapes.text(x, "keep 100");
        Stories.lastHour(x);
        for (int one = 0; one < 10; one++) {
            x.turns(one, 0);
            x.vow(one, (one + 1) % 10, 0);
            x.turns(one, 5);
        }
        for (int k = 0; k < 60; k++) {
            x.tell(k);
        }
        for (int k = 0; k < 8; k++) {
            x.feed(0, 0, 0);
        }
        x.seed(LEAST);
        int[] most = {10, 10, 9999, 10, 14, 60, 96, LEAST};
        for (int what = 0; what < 8; what++) {
            Due.is("42: the greatest, what " + what, x.count(what), most[what]);
        }
        x.seed(NoonVows.BAD);
        Due.is("42: z may be any int", x.count(7), NoonVows.BAD);
        Due.is("42: 16 VOWS", Stories.behind(Stories::sixteenVows).count(1), 16);
    }

    private static void countIsRefused() {
        // 42: "BAD."
        Refused.beyond("42: what", Stories::busy, 0, 7, (x, v) -> x.count(v));
        Refused.beyond("42: what, nothing there yet", Stories::nothing, 0, 7, (x, v) -> x.count(v));
    }
}
