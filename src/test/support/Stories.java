import java.util.function.Consumer;

/** Runs of calls that bring a new object to where an edge can be tried. */
final class Stories {
    private Stories() {
    }

    static NoonVows behind(Consumer<NoonVows> story) {
        NoonVows x = new NoonVows();
        story.accept(x);
        return x;
    }

    static void nothing(NoonVows x) {
        x.getClass();
    }

    /** Something of all that there is: 7 of the PEOPLE, VOWS, TEXTS, SHEETS, SLOTS, a TAPE, numbers that wait, AN IMAGE. */
    static void busy(NoonVows x) {
        kinds(x);
        x.vow(0, 1, 2);
        x.vow(1, 2, 0);
        x.vow(2, 3, 1);
        Tapes.text(x, "fee k+2*l");
        Tapes.text(x, "keep f-n");
        x.hours(5);
        x.vow(3, 0, 2);
        x.keep();
        for (int hour = 1; hour <= 2; hour++) {
            x.tell(x.behind(hour, 0));
            x.tell(x.behind(hour, 2));
        }
        x.set(0, 3, 17);
        x.person(1, 7, 33);
        x.hours(2);
        x.vow(1, 0, 1);
        Tapes.text(x, "fine p-e");
        x.seed(77);
        rows(x);
        x.lay(1, 1, 3);
        x.lay(2, 2, 1);
        x.lay(3, 3, -17);
        x.lay(4, 2, 0);
        Tapes.put(x, "fee 7*k");
    }

    static Consumer<NoonVows> busyThen(Consumer<NoonVows> more) {
        Consumer<NoonVows> story = Stories::busy;
        return story.andThen(more);
    }

    /** One of each KIND, numbered by it. */
    static void kinds(NoonVows x) {
        int[] easts = {3, 9, 14, 20, 23, 0};
        int[] faiths = {80, 60, 70, 90, 40, 10};
        for (int kind = 0; kind < 6; kind++) {
            x.person(kind, easts[kind], faiths[kind]);
        }
    }

    /** SHEET 0 of shorts, 1 of floats with a NO NUMBER, 2 without a place; 3 stays MISSING. */
    private static void rows(NoonVows x) {
        row(x, 0, 0, 5, -6, 7);
        row(x, 1, 1, 12, NoonVows.NONE, 99999, -3);
        row(x, 2, 0);
    }

    static void row(NoonVows x, int sheet, int sort, int... places) {
        x.sheet(sheet, sort, places.length);
        for (int k = 0; k < places.length; k++) {
            x.mark(sheet, k, places[k]);
        }
    }

    static void layOneInAll(NoonVows x) {
        for (int slot = 0; slot < 5; slot++) {
            x.lay(slot, 1, slot);
        }
    }

    /** What a SHEET has at a place, by way of SLOT 4. */
    static int at(NoonVows x, int sheet, int place) {
        x.lay(4, 2, sheet);
        return x.item(4, place);
    }

    /** So many VOWERS at EAST 0 with FAITH 50. */
    static Consumer<NoonVows> vowers(int many) {
        return x -> {
            for (int k = 0; k < many; k++) {
                x.person(0, 0, 50);
            }
        };
    }

    static void tenPeople(NoonVows x) {
        busy(x);
        x.deal(3);
    }

    /** 16 VOWS of 0 .. 7 to 9, two of each; 8 and 9 gave none; 0 .. 7 gave one in this HOUR. */
    static void sixteenVows(NoonVows x) {
        vowers(10).accept(x);
        for (int one = 0; one < 8; one++) {
            x.vow(one, 9, 0);
        }
        x.hours(1);
        for (int one = 0; one < 8; one++) {
            x.vow(one, 9, 1);
        }
    }

    /** 16 VOWS, of which 7 is the STRUCK giver in this HOUR of one; 8 is STRUCK and gave none. */
    static void strikesWhenFull(NoonVows x) {
        sixteenVows(x);
        x.turns(7, 5);
        x.turns(8, 5);
    }

    static void fourteenTexts(NoonVows x) {
        vowers(2).accept(x);
        for (int k = 0; k < 14; k++) {
            Tapes.text(x, "fee " + (20 + k));
        }
    }

    /** THE HOUR becomes 9999, if it was 0: 100 calls. */
    static void lastHour(NoonVows x) {
        for (int k = 0; k < 99; k++) {
            x.hours(100);
        }
        x.hours(99);
    }

    /** THE HOURS TOLD of n HOURS, by letting them go by. */
    static int[] hoursTold(NoonVows x, int n) {
        int[] rows = new int[2 * n];
        for (int k = 0; k < n; k++) {
            x.hours(1);
            rows[2 * k] = x.land(0);
            rows[2 * k + 1] = x.land(2);
        }
        return rows;
    }

    /** A draw, as the document tells it: z behind it. */
    static int drawn(int z) {
        return z * 1103515245 + 12345;
    }

    /** A seed whose next draw has this rest by 100. */
    static int seedWithRest(int rest) {
        int seed = 0;
        while ((drawn(seed) >>> 8) % 100 != rest) {
            seed++;
        }
        return seed;
    }
}
