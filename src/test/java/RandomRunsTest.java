import java.lang.reflect.Method;
import java.util.Arrays;
import java.util.Random;

/** Promises 1 to 42: runs of calls by lot, each answer against that of the Model; the lots are always the same. */
public final class RandomRunsTest {
    private static final int[] EXTREMES = {Integer.MIN_VALUE, Integer.MAX_VALUE, -1, 0, NoonVows.NONE, 1 << 20, -99999, 99999};
    private static final String[] PIECES = {"f", "n", "w", "k", "l", "p", "e", "0", "1", "7", "42", "9999", "12345", "ff",
        "(", "(", ")", "!", "|", "&", "<", "=", ">", "+", "-", "*", "/", " ", "  ", "?", "F", "\u00e9", "keep", "\0"};
    /** No object is asked more than 512 times: an act takes 64 calls at most. */
    private static final int LAST_ACT = 512 - 70;
    private int asked = 0;
    private final Random lot;
    private final NoonVows x = new NoonVows();
    private final Model m = new Model();
    private final StringBuilder story = new StringBuilder();

    private RandomRunsTest(long seed) {
        lot = new Random(seed);
    }

    private int in(int least, int most) {
        int chance = lot.nextInt(60);
        if (chance == 0) {
            return EXTREMES[lot.nextInt(EXTREMES.length)];
        }
        return chance < 3 ? (chance == 1 ? least - 1 : most + 1) : least + lot.nextInt(most - least + 1);
    }

    private int one() {
        return in(0, Math.max(0, m.now.people.size() - 1));
    }

    private int call(String name, int... args) throws ReflectiveOperationException {
        Class<?>[] types = new Class<?>[args.length];
        Arrays.fill(types, int.class);
        Object[] boxed = Arrays.stream(args).boxed().toArray();
        Method mine = NoonVows.class.getMethod(name, types);
        Method model = Model.class.getDeclaredMethod(name, types);
        int want = (Integer) model.invoke(m, boxed);
        int got = (Integer) mine.invoke(x, boxed);
        asked++;
        story.append(name).append(Arrays.toString(args)).append(" -> ").append(got).append('\n');
        Due.is(name + Arrays.toString(args), got, want);
        if (got != want) {
            System.out.println(story);
            Due.end();
        }
        return got;
    }

    private void act() throws ReflectiveOperationException {
        switch (lot.nextInt(46)) {
            case 0 -> call("person", in(0, 5), in(0, 23), in(0, 99));
            case 1 -> call("told", one(), in(0, 8));
            case 2 -> call("as", one(), in(0, 5));
            case 3 -> call("turns", one(), in(0, 5));
            case 4 -> { int what = in(1, 3); call("set", one(), what, what == 1 ? in(0, 23) : what == 2 ? in(0, 99) : in(-9999, 9999)); }
            case 5, 6, 7, 8 -> call("vow", one(), one(), in(0, 2));
            case 9 -> call("vowOf", in(0, Math.max(0, m.now.vows.size() - 1)), in(0, 3));
            case 10 -> call("breaks", in(0, 15));
            case 11 -> { if (lot.nextInt(8) == 0) call("eclipse"); }
            case 12 -> { if (lot.nextInt(4) == 0) call("deal", in(1, 10)); }
            case 13 -> call("seed", lot.nextInt());
            case 14, 15 -> call("hours", lot.nextInt(6) == 0 ? in(1, 100) : in(1, 6));
            case 16 -> call("land", in(0, 5));
            case 17 -> call("reaches", one(), one());
            case 18 -> call("behind", in(0, 100), in(0, 2 + m.now.people.size()));
            case 19 -> call("free");
            case 20 -> call("sworn", in(1, 40), in(0, 1));
            case 21 -> call("trust", in(1, 60), in(0, 1));
            case 22 -> call("debtor", in(1, 60), in(0, 1));
            case 23 -> call("clock", in(0, 3), one(), in(0, 1));
            case 24 -> call("fee");
            case 25 -> call("fine", one());
            case 26 -> call("feed", lot.nextInt(), lot.nextInt(), lot.nextInt());
            case 27 -> call("trim", in(0, m.tape.length()));
            case 28, 29, 30 -> text();
            case 31 -> call("textTold", in(0, 13), in(0, 1));
            case 32 -> call("why", in(0, 2));
            case 33 -> call("sheet", in(0, 3), in(-1, 1), in(0, 24));
            case 34, 35 -> call("mark", in(0, 3), in(0, 23), value());
            case 36 -> call("pour", in(0, 3));
            case 37 -> call("reads", in(0, 3));
            case 38 -> call("copy", in(0, 3), in(0, 12), in(0, 3), in(0, 12), in(0, 12));
            case 39 -> { int thing = in(0, 3); call("lay", in(0, 4), thing, thing == 3 ? lot.nextInt() : in(0, 3)); }
            case 40 -> call("ask", in(0, 4), in(0, 5));
            case 41 -> call("item", in(0, 4), in(0, 23));
            case 42 -> call("rest", in(0, 4), in(-5, 5));
            case 43 -> check();
            case 44 -> call(lot.nextInt(3) > 0 ? "keep" : "back");
            default -> call("count", in(0, 7));
        }
    }

    private int value() {
        return switch (lot.nextInt(6)) {
            case 0 -> NoonVows.NONE;
            case 1 -> lot.nextInt();
            case 2 -> in(-99999, 99999);
            default -> in(0, 23);
        };
    }

    /** Numbers that are right for a while: the model tells them, then one goes otherwise, is left out or added. */
    private void check() throws ReflectiveOperationException {
        int n = in(1, 30);
        if (m.image != null && n >= 1 && n <= 30) {
            int many = Math.min(n, 9999 - m.image.hour) + lot.nextInt(3) / 2;
            for (int k = 1; k <= many; k++) {
                Model.World w = m.image.later(k);
                call("tell", w.vows.size() + (lot.nextInt(80) == 0 ? 1 : 0));
                if (k < many || lot.nextInt(5) > 0) {
                    call("tell", w.lapsed + (lot.nextInt(80) == 0 ? 1 : 0));
                }
            }
        } else {
            call("tell", in(0, 3));
        }
        call("check", n);
        call("count", 5);
    }

    private String expression(int key, int depth) {
        int pick = lot.nextInt(depth > 0 ? 8 : 2);
        String names = Model.names(key);
        return switch (pick) {
            case 0 -> Integer.toString(lot.nextInt(lot.nextInt(9999) + 1));
            case 1 -> names.substring(0, 1 + lot.nextInt(names.length())).replaceAll(".*(.)", "$1");
            case 2 -> "!" + expression(key, depth - 1);
            case 3 -> "(" + expression(key, depth - 1) + ")";
            default -> expression(key, depth - 1) + blanks() + "|&<=>+-*/".charAt(lot.nextInt(9)) + blanks() + expression(key, depth - 1);
        };
    }

    private String blanks() {
        return lot.nextInt(4) == 0 ? " ".repeat(lot.nextInt(3)) : "";
    }

    private void text() throws ReflectiveOperationException {
        int key = lot.nextInt(3);
        String good = blanks() + new String[] {"keep", "fee", "fine"}[key] + " " + expression(key, lot.nextInt(5)) + blanks();
        StringBuilder t = new StringBuilder(good);
        for (int k = lot.nextInt(3); k > 0; k--) {
            int at = lot.nextInt(t.length() + 1);
            t.replace(at, Math.min(t.length(), at + lot.nextInt(2)), PIECES[lot.nextInt(PIECES.length)]);
        }
        if (t.length() > 96) {
            t.setLength(96);
        }
        Tapes.put(x, t.toString());
        asked += 2 + (t.length() + 11) / 12;
        m.tape = new StringBuilder(t);
        story.append('"').append(t).append("\"\n");
        call("count", 6);
        call("text");
    }

    private void run(int calls) throws ReflectiveOperationException {
        if (lot.nextInt(10) > 0) {
            call("deal", 2 + lot.nextInt(9));
        }
        boolean late = lot.nextInt(8) == 0;
        for (int k = 0; late && k < 99 + lot.nextInt(3); k++) {
            call("hours", 100);
        }
        for (int k = 0; k < calls && asked < LAST_ACT; k++) {
            act();
        }
    }

    public static void main(String[] args) throws ReflectiveOperationException {
        int runs = args.length > 0 ? Integer.parseInt(args[0]) : 400;
        for (int seed = 0; seed < runs; seed++) {
            new RandomRunsTest(seed).run(300);
        }
        Due.end();
    }
}
