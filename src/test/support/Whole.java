import java.util.ArrayList;
import java.util.List;
import java.util.function.Consumer;

/**
 * All that can be seen of an object. It is seen part by part, each part on an object of its own: some ways to look change
 * what they look at, and no object may be asked more than 512 times.
 */
final class Whole {
    private static final int PARTS = 10;

    private Whole() {
    }

    /** Both runs of calls leave the same behind. */
    static void alike(String label, Consumer<NoonVows> run, Consumer<NoonVows> other) {
        for (int part = 0; part < PARTS; part++) {
            NoonVows x = new NoonVows();
            run.accept(x);
            NoonVows y = new NoonVows();
            other.accept(y);
            List<Integer> mine = part(x, part);
            List<Integer> theirs = part(y, part);
            if (!mine.equals(theirs)) {
                System.out.println(label + ", part " + part + ": " + mine + " and not " + theirs);
            }
            Due.holds(label, mine.equals(theirs));
        }
    }

    private static List<Integer> part(NoonVows x, int part) {
        List<Integer> seen = new ArrayList<>();
        switch (part) {
            case 0 -> people(x, seen);
            case 1 -> slots(x, seen);
            case 2 -> sheets(x, seen);
            case 3 -> sorts(x, seen);
            case 4 -> whoGaveInThisHour(x, seen);
            case 5 -> tape(x, seen);
            case 6 -> waiting(x, seen);
            case 7 -> {
                seen.add(x.back());
                people(x, seen);
            }
            case 8 -> {
                seen.add(x.back());
                whoGaveInThisHour(x, seen);
            }
            default -> whatWillBe(x, seen);
        }
        return seen;
    }

    private static void people(NoonVows x, List<Integer> seen) {
        for (int one = 0; one < x.count(0); one++) {
            for (int what = 0; what < 9; what++) {
                seen.add(x.told(one, what));
            }
            seen.add(x.fine(one));
        }
        for (int vow = 0; vow < x.count(1); vow++) {
            for (int what = 0; what < 4; what++) {
                seen.add(x.vowOf(vow, what));
            }
        }
        for (int text = 0; text < x.count(4); text++) {
            seen.add(x.textTold(text, 0));
            seen.add(x.textTold(text, 1));
        }
        for (int what = 0; what < 8; what++) {
            seen.add(x.count(what));
            seen.add(x.land(what));
            seen.add(x.why(what));
        }
        seen.add(x.fee());
    }

    private static void slots(NoonVows x, List<Integer> seen) {
        for (int slot = 0; slot < 5; slot++) {
            for (int kind = 0; kind < 6; kind++) {
                seen.add(x.ask(slot, kind));
            }
            for (int place = 0; place < 25; place++) {
                seen.add(x.item(slot, place));
            }
            seen.add(x.rest(slot, Integer.MIN_VALUE));
            seen.add(x.rest(slot, Integer.MAX_VALUE));
        }
    }

    private static void sheets(NoonVows x, List<Integer> seen) {
        for (int sheet = 0; sheet < 4; sheet++) {
            x.lay(4, 0, 0);
            x.lay(4, 2, sheet);
            for (int place = 0; place < 25; place++) {
                seen.add(x.item(4, place));
            }
        }
    }

    private static void sorts(NoonVows x, List<Integer> seen) {
        for (int from = 0; from < 4; from++) {
            for (int to = 0; to < 4; to++) {
                seen.add(x.copy(from, 0, to, 0, 0));
            }
            seen.add(x.mark(from, 0, NoonVows.NONE));
        }
    }

    private static void whoGaveInThisHour(NoonVows x, List<Integer> seen) {
        int many = x.count(0);
        for (int one = 0; one < many; one++) {
            x.turns(one, 0);
            seen.add(x.vow(one, (one + 1) % many, 0));
        }
    }

    private static void tape(NoonVows x, List<Integer> seen) {
        int text = x.text();
        seen.add(text);
        seen.add(x.textTold(text, 0));
        seen.add(x.textTold(text, 1));
        seen.add(x.fee());
    }

    private static void waiting(NoonVows x, List<Integer> seen) {
        int many = x.count(5);
        seen.add(many);
        seen.add(x.check(Math.max(1, many / 2)));
    }

    private static void whatWillBe(NoonVows x, List<Integer> seen) {
        for (int what = 0; what < 3; what++) {
            seen.add(x.behind(50, what));
        }
        seen.add(x.free());
        for (int what = 0; what < 2; what++) {
            seen.add(x.sworn(30, what));
            seen.add(x.trust(30, what));
            seen.add(x.debtor(30, what));
        }
    }
}
