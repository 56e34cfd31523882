import java.util.ArrayDeque;
import java.util.ArrayList;
import java.util.Arrays;
import java.util.Deque;
import java.util.List;

/** The document once more, written another way (kinds as classes, texts by a stack machine), to compare with. */
final class Model {
    static final int BAD = -1000000001, NO = -1000000002, FULL = -1000000003, NONE = -1000000005,
        NOTHING = -1000000011, KIND = -1000000012, INDEX = -1000000013, SIZE = -1000000014;

    static class Vower {
        int east, faith, purse, lastGave = -1;

        int keeps(int plain) { return plain; }

        int noon() { return (12 + east) % 24; }

        int pays() { return 2; }

        int worth() { return faith; }

        int number() { return 0; }
    }

    static class Late extends Vower {
        @Override int keeps(int plain) { return Math.min(100, super.keeps(plain) + 10); }

        @Override int noon() { return super.noon() == 23 ? 0 : super.noon() + 1; }

        @Override int pays() { return 1; }

        @Override int worth() { return super.worth() + 6; }

        @Override int number() { return 1; }
    }

    static class Sleeper extends Vower {
        @Override int keeps(int plain) { return Math.max(0, super.keeps(plain) - 20); }

        @Override int pays() { return 0; }

        @Override int worth() { return 99 - faith; }

        @Override int number() { return 2; }
    }

    static class Soldier extends Late {
        @Override int keeps(int plain) { return super.keeps(plain) / 2; }

        @Override int noon() { return (super.noon() + 6) % 24; }

        @Override int pays() { return super.pays() + 4; }

        @Override int worth() { return 2 * super.worth(); }

        @Override int number() { return 3; }
    }

    static class Priest extends Sleeper {
        @Override int keeps(int plain) { return Math.min(100, super.keeps(plain) + 30); }

        @Override int worth() { return super.worth() - 5; }

        @Override int number() { return 4; }
    }

    static class Struck extends Vower {
        @Override int keeps(int plain) { return 0; }

        @Override int pays() { return 9; }

        @Override int worth() { return 1; }

        @Override int number() { return 5; }
    }

    static final Class<?>[] CLASSES = {Vower.class, Late.class, Sleeper.class, Soldier.class, Priest.class, Struck.class};

    static Vower make(int kind, Vower like) {
        Vower p = switch (kind) {
            case 0 -> new Vower();
            case 1 -> new Late();
            case 2 -> new Sleeper();
            case 3 -> new Soldier();
            case 4 -> new Priest();
            default -> new Struck();
        };
        p.east = like.east;
        p.faith = like.faith;
        p.purse = like.purse;
        p.lastGave = like.lastGave;
        return p;
    }

    record Promise(int one, int other, int what) { }

    record Law(int key, List<String> tokens, int leaves) { }

    static final class World {
        List<Vower> people = new ArrayList<>();
        List<Promise> vows = new ArrayList<>();
        List<Law> laws = new ArrayList<>();
        int kept, lapsed, hour, z = 1;

        World twin() {
            World w = new World();
            for (Vower p : people) {
                w.people.add(make(p.number(), p));
            }
            w.vows.addAll(vows);
            w.laws.addAll(laws);
            w.kept = kept;
            w.lapsed = lapsed;
            w.hour = hour;
            w.z = z;
            return w;
        }

        World later(int n) {
            World w = twin();
            for (int k = 0; k < n; k++) {
                w.pass();
            }
            return w;
        }

        int draw() {
            z = (int) ((long) z * 1103515245L + 12345L);
            return (int) ((z & 0xffffffffL) >> 8);
        }

        int given(int one) { return (int) vows.stream().filter(v -> v.one == one).count(); }

        int lastLaw(int key) {
            int found = NONE;
            for (int k = 0; k < laws.size(); k++) {
                found = laws.get(k).key == key ? k : found;
            }
            return found;
        }

        int keeps(Promise v) {
            Vower p = people.get(v.one);
            int n = given(v.one);
            int law = lastLaw(0);
            int plain = law == NONE ? p.faith - 5 * n : value(laws.get(law).tokens, "fnw", p.faith, n, v.what);
            return p.keeps(Math.max(0, Math.min(100, plain)));
        }

        void pass() {
            hour++;
            for (Promise v : new ArrayList<>(vows)) {
                if (people.get(v.one).noon() != hour % 24) {
                    continue;
                }
                if (draw() % 100 < keeps(v)) {
                    kept++;
                } else {
                    lapsed++;
                    for (int k = 0; k < vows.size(); k++) {
                        if (vows.get(k) == v) {
                            vows.remove(k);
                            break;
                        }
                    }
                }
            }
            for (Promise v : vows) {
                if (v.what == 2) {
                    Vower payer = people.get(v.one);
                    Vower paid = people.get(v.other);
                    payer.purse = Math.max(-9999, payer.purse - payer.pays());
                    paid.purse = Math.min(9999, paid.purse + payer.pays());
                }
            }
        }

        int chain(int from, List<Integer> path) {
            int best = path.size() - 1;
            for (Promise v : vows) {
                if (v.one == from && !path.contains(v.other)) {
                    path.add(v.other);
                    best = Math.max(best, chain(v.other, path));
                    path.remove(path.size() - 1);
                }
            }
            return best;
        }

        int reaches(int one, int other) {
            int[] far = new int[people.size()];
            Arrays.fill(far, 1000);
            far[one] = 0;
            for (int k = 0; k < 20; k++) {
                for (Promise v : vows) {
                    far[v.other] = Math.min(far[v.other], far[v.one] + 1);
                }
            }
            return far[other] >= 1000 ? NONE : far[other];
        }
    }

    // ---- texts: words cut first, then a machine with a stack of what is open

    record Word(String text, int at, boolean glued) { }

    static List<Word> words(String tape) {
        List<Word> all = new ArrayList<>();
        java.util.regex.Matcher m = java.util.regex.Pattern.compile("[a-z]+|[0-9]+|[^ ]", java.util.regex.Pattern.DOTALL).matcher(tape);
        int behind = -1;
        boolean wordBehind = false;
        while (m.find()) {
            boolean word = Character.toString(m.group().charAt(0)).matches("[a-z0-9]");
            all.add(new Word(m.group(), m.start(), word && wordBehind && behind == m.start()));
            behind = m.end();
            wordBehind = word;
        }
        return all;
    }

    static String names(int key) { return key == 0 ? "fnw" : key == 1 ? "kl" : "pe"; }

    /** -1: it is a TEXT; else the place of the FAULT. */
    static int fault(String tape) {
        List<Word> all = words(tape);
        if (all.isEmpty()) {
            return tape.length();
        }
        int key = List.of("keep", "fee", "fine").indexOf(all.get(0).text);
        if (key < 0) {
            return all.get(0).at;
        }
        // '(' open with no test yet in it, 't' the same behind a test; '!' open. The lowest is the TEXT itself.
        Deque<Character> open = new ArrayDeque<>();
        open.push('(');
        boolean wantsPiece = true;
        for (Word w : all.subList(1, all.size())) {
            String t = w.text;
            boolean fits;
            if (wantsPiece) {
                if (t.equals("(")) {
                    fits = open.stream().filter(c -> c != '!').count() < 9;
                    open.push('(');
                } else if (t.equals("!")) {
                    fits = open.stream().filter(c -> c == '!').count() < 8;
                    open.push('!');
                } else {
                    fits = !w.glued && (t.matches("[0-9]{1,4}") || t.matches("[a-z]") && names(key).contains(t));
                    wantsPiece = false;
                }
            } else {
                while (open.peek() == '!') {
                    open.pop();
                }
                if (t.equals(")")) {
                    fits = open.size() > 1;
                    open.pop();
                } else if ("<=>".contains(t)) {
                    fits = open.pop() == '(';
                    open.push('t');
                    wantsPiece = true;
                } else {
                    fits = t.length() == 1 && "|&+-*/".contains(t);
                    if (t.equals("|") || t.equals("&")) {
                        open.pop();
                        open.push('(');
                    }
                    wantsPiece = true;
                }
            }
            if (!fits) {
                return w.at;
            }
        }
        while (!wantsPiece && open.size() > 1 && open.peek() == '!') {
            open.pop();
        }
        return wantsPiece || open.size() > 1 ? tape.length() : -1;
    }

    static final String[] LEVELS = {"|", "&", "<=>", "+-", "*/"};

    /** Cuts at the last sign of the loosest level that stands outside all brackets. */
    static int value(List<String> t, String names, int... v) {
        for (int level = 0; level < LEVELS.length; level++) {
            int depth = 0;
            for (int k = t.size() - 1; k > 0; k--) {
                String s = t.get(k);
                depth += s.equals(")") ? 1 : s.equals("(") ? -1 : 0;
                if (depth == 0 && LEVELS[level].contains(s)) {
                    return join(s, value(t.subList(0, k), names, v), value(t.subList(k + 1, t.size()), names, v));
                }
            }
        }
        String first = t.get(0);
        if (first.equals("!")) {
            return value(t.subList(1, t.size()), names, v) == 0 ? 1 : 0;
        }
        if (first.equals("(")) {
            return value(t.subList(1, t.size() - 1), names, v);
        }
        return first.matches("[0-9]+") ? Integer.parseInt(first) : v[names.indexOf(first)];
    }

    static int join(String sign, int a, int b) {
        return switch (sign) {
            case "|" -> a != 0 || b != 0 ? 1 : 0;
            case "&" -> a != 0 && b != 0 ? 1 : 0;
            case "<" -> a < b ? 1 : 0;
            case "=" -> a == b ? 1 : 0;
            case ">" -> a > b ? 1 : 0;
            case "+" -> a + b;
            case "-" -> a - b;
            case "*" -> a * b;
            default -> b == 0 ? 0 : a / b;
        };
    }

    // ---- the object

    World now = new World();
    World image = null;
    StringBuilder tape = new StringBuilder();
    List<Integer> waiting = new ArrayList<>();
    Object[] sheets = new Object[4];
    Object[] slots = new Object[5];

    boolean one(int k) { return k >= 0 && k < now.people.size(); }

    static boolean in(int v, int a, int b) { return a <= v && v <= b; }

    static int size(Object row) { return row instanceof short[] s ? s.length : ((float[]) row).length; }

    static Integer at(Object row, int k) {
        if (row instanceof short[] s) {
            return (int) s[k];
        }
        float f = ((float[]) row)[k];
        return Float.isNaN(f) ? null : Integer.valueOf((int) f);
    }

    int person(int kind, int east, int faith) {
        if (!in(kind, 0, 5) || !in(east, 0, 23) || !in(faith, 0, 99)) return BAD;
        if (now.people.size() == 10) return FULL;
        Vower p = make(kind, new Vower());
        p.east = east;
        p.faith = faith;
        now.people.add(p);
        return now.people.size() - 1;
    }

    int told(int one, int what) {
        if (!one(one) || !in(what, 0, 8)) return BAD;
        Vower p = now.people.get(one);
        int[] all = {p.number(), p.east, p.faith, p.purse, now.given(one),
            (int) now.vows.stream().filter(v -> v.other == one).count(), p.noon(), p.pays(), p.worth()};
        return all[what];
    }

    int as(int one, int kind) {
        if (!one(one) || !in(kind, 0, 5)) return BAD;
        return CLASSES[kind].isInstance(now.people.get(one)) ? now.people.get(one).faith : KIND;
    }

    int turns(int one, int kind) {
        if (!one(one) || !in(kind, 0, 5)) return BAD;
        Vower was = now.people.get(one);
        now.people.set(one, make(kind, was));
        return was.number();
    }

    int set(int one, int what, int v) {
        if (!one(one)) return BAD;
        Vower p = now.people.get(one);
        int was;
        if (what == 1 && in(v, 0, 23)) { was = p.east; p.east = v; return was; }
        if (what == 2 && in(v, 0, 99)) { was = p.faith; p.faith = v; return was; }
        if (what == 3 && in(v, -9999, 9999)) { was = p.purse; p.purse = v; return was; }
        return BAD;
    }

    int vow(int one, int other, int what) {
        if (!one(one) || !one(other) || one == other || !in(what, 0, 2)) return BAD;
        Vower p = now.people.get(one);
        if (p instanceof Struck) return NO;
        if (p.lastGave == now.hour) {
            now.people.set(one, make(5, p));
            int ahead = now.vows.size();
            now.vows.removeIf(v -> v.one == one);
            now.lapsed += ahead - now.vows.size();
            return NONE;
        }
        if (now.vows.size() == 16) return FULL;
        p.lastGave = now.hour;
        now.vows.add(new Promise(one, other, what));
        return now.vows.size() - 1;
    }

    int vowOf(int vow, int what) {
        if (!in(vow, 0, now.vows.size() - 1) || !in(what, 0, 3)) return BAD;
        Promise v = now.vows.get(vow);
        return new int[] {v.one, v.other, v.what, now.keeps(v)}[what];
    }

    int breaks(int vow) {
        if (!in(vow, 0, now.vows.size() - 1)) return BAD;
        now.vows.remove(vow);
        now.lapsed++;
        return now.vows.size();
    }

    int eclipse() {
        int were = now.vows.size();
        while (!now.vows.isEmpty()) breaks(0);
        return were;
    }

    int deal(int n) {
        if (!in(n, 1, 10)) return BAD;
        int came = 0;
        while (came < n && now.people.size() < 10) {
            int kind = now.draw() % 6;
            int east = now.draw() % 24;
            person(kind, east, now.draw() % 100);
            came++;
        }
        return came;
    }

    int seed(int v) {
        int was = now.z;
        now.z = v;
        return was;
    }

    int hours(int n) {
        if (!in(n, 1, 100)) return BAD;
        int was = now.lapsed;
        for (int k = 0; k < n && now.hour < 9999; k++) now.pass();
        return now.lapsed - was;
    }

    int land(int what) {
        int givers = 0;
        int takers = 0;
        for (Promise v : now.vows) {
            givers |= 1 << v.one;
            takers |= 1 << v.other;
        }
        int longest = 0;
        for (int k = 0; k < now.people.size(); k++) {
            longest = Math.max(longest, now.chain(k, new ArrayList<>(List.of(k))));
        }
        return in(what, 0, 5) ? new int[] {now.vows.size(), now.kept, now.lapsed, givers, takers, longest}[what] : BAD;
    }

    int reaches(int one, int other) { return one(one) && one(other) ? now.reaches(one, other) : BAD; }

    int behind(int n, int what) {
        if (!in(n, 0, 100) || what < 0 || what > 2 && !one(what - 3)) return BAD;
        World w = now.later(n);
        return what == 0 ? w.vows.size() : what == 1 ? w.kept : what == 2 ? w.lapsed : w.people.get(what - 3).purse;
    }

    int free() {
        World w = now.twin();
        for (int k = 0; k <= 300; k++) {
            if (w.vows.isEmpty()) return k;
            w.pass();
        }
        return NONE;
    }

    int sworn(int n, int what) {
        if (!in(n, 1, 40) || !in(what, 0, 1)) return BAD;
        int[] best = {NONE, NONE};
        for (int a = 0; a < now.people.size(); a++) {
            for (int b = 0; b < now.people.size(); b++) {
                if (a != b) {
                    World w = now.twin();
                    w.vows.add(new Promise(a, b, 0));
                    int then = w.later(n).vows.size();
                    if (then > best[1]) best = new int[] {10 * a + b, then};
                }
            }
        }
        return best[what];
    }

    int trust(int n, int what) {
        if (!in(n, 1, 60) || !in(what, 0, 1)) return BAD;
        int[] best = {NONE, NONE};
        for (int a = 0; a < now.people.size(); a++) {
            World w = now.twin();
            w.people.get(a).faith = 99;
            int then = w.later(n).vows.size();
            if (then > best[1]) best = new int[] {a, then};
        }
        return best[what];
    }

    int debtor(int n, int what) {
        if (!in(n, 1, 60) || !in(what, 0, 1)) return BAD;
        int[] best = {NONE, NONE};
        World w = now.later(n);
        for (int a = 0; a < now.people.size(); a++) {
            int lost = now.people.get(a).purse - w.people.get(a).purse;
            if (lost > best[1]) best = new int[] {a, lost};
        }
        return best[what];
    }

    int clock(int sheet, int one, int what) {
        if (!in(sheet, 0, 3) || !one(one) || !in(what, 0, 1)) return BAD;
        Object row = sheets[sheet];
        if (row == null) return NOTHING;
        int[] best = {0, Integer.MAX_VALUE};
        for (int east = 0; east < 24; east++) {
            World w = now.twin();
            w.people.get(one).east = east;
            int sum = 0;
            for (int k = 0; k < size(row); k++) {
                if (at(row, k) != null) sum += Math.abs(w.later(k).given(one) - at(row, k));
            }
            if (sum < best[1]) best = new int[] {east, sum};
        }
        return best[what];
    }

    int fee() {
        int law = now.lastLaw(1);
        return law == NONE ? now.lapsed : value(now.laws.get(law).tokens, "kl", now.kept, now.lapsed);
    }

    int fine(int one) {
        if (!one(one)) return BAD;
        Vower p = now.people.get(one);
        int law = now.lastLaw(2);
        return law == NONE ? p.purse : value(now.laws.get(law).tokens, "pe", p.purse, p.east);
    }

    int feed(int a, int b, int c) {
        if (tape.length() + 12 > 96) return FULL;
        for (int n : new int[] {a, b, c}) {
            for (byte x : java.nio.ByteBuffer.allocate(4).putInt(n).array()) tape.append((char) (x & 255));
        }
        return tape.length();
    }

    int trim(int n) {
        if (!in(n, 0, tape.length())) return BAD;
        tape.setLength(n);
        return n;
    }

    int text() {
        String t = tape.toString();
        tape.setLength(0);
        int fault = fault(t);
        if (fault >= 0) return -100 - fault;
        if (now.laws.size() == 14) return FULL;
        List<String> tokens = new ArrayList<>();
        for (Word w : words(t)) tokens.add(w.text);
        int key = List.of("keep", "fee", "fine").indexOf(tokens.remove(0));
        now.laws.add(new Law(key, tokens, (int) tokens.stream().filter(s -> s.matches("[a-z0-9]+")).count()));
        return now.laws.size() - 1;
    }

    int textTold(int text, int what) {
        if (!in(text, 0, now.laws.size() - 1) || !in(what, 0, 1)) return BAD;
        return what == 0 ? now.laws.get(text).key : now.laws.get(text).leaves;
    }

    int why(int key) { return in(key, 0, 2) ? now.lastLaw(key) : BAD; }

    int sheet(int sheet, int sort, int n) {
        if (!in(sheet, 0, 3) || !in(sort, -1, 1) || sort >= 0 && n > 24) return BAD;
        if (sort >= 0 && n < 0) return SIZE;
        sheets[sheet] = sort < 0 ? null : sort == 0 ? new short[n] : new float[n];
        return sort < 0 ? 0 : n;
    }

    int mark(int sheet, int place, int v) {
        if (!in(sheet, 0, 3)) return BAD;
        Object row = sheets[sheet];
        if (row == null) return NOTHING;
        if (!in(place, 0, size(row) - 1)) return INDEX;
        if (row instanceof short[] s) {
            if (v == NONE) return KIND;
            s[place] = (short) v;
        } else {
            if (v != NONE && !in(v, -99999, 99999)) return BAD;
            ((float[]) row)[place] = v == NONE ? Float.NaN : v;
        }
        return 1;
    }

    int pour(int sheet) {
        if (!in(sheet, 0, 3)) return BAD;
        Object row = sheets[sheet];
        if (row == null) return NOTHING;
        int changed = 0;
        for (int k = 0; k < now.people.size() && k < size(row); k++) {
            Integer v = at(row, k);
            Vower p = now.people.get(k);
            int was = p.faith;
            if (v != null) p.faith = v < 0 ? 0 : v > 99 ? 99 : v;
            if (was != p.faith) changed++;
        }
        return changed;
    }

    int reads(int sheet) {
        if (!in(sheet, 0, 3)) return BAD;
        Object row = sheets[sheet];
        if (row == null) return NOTHING;
        for (int k = 0; k < size(row); k++) {
            Integer v = at(row, k);
            if (v != null && (k >= now.people.size() || now.people.get(k).noon() != v)) return k;
        }
        return NONE;
    }

    int copy(int from, int place, int to, int at, int many) {
        if (!in(from, 0, 3) || !in(to, 0, 3)) return BAD;
        try {
            System.arraycopy(sheets[from], place, sheets[to], at, many);
            return many;
        } catch (NullPointerException e) {
            return NOTHING;
        } catch (ArrayStoreException e) {
            return KIND;
        } catch (IndexOutOfBoundsException e) {
            return INDEX;
        }
    }

    static int sort(Object thing) {
        return thing == null ? 0 : thing instanceof Vower ? 1 : thing instanceof Integer ? 3 : 2;
    }

    int lay(int slot, int thing, int k) {
        if (!in(slot, 0, 4) || !in(thing, 0, 3) || thing == 1 && !one(k) || thing == 2 && !in(k, 0, 3)) return BAD;
        if (thing == 2 && sheets[k] == null) return NOTHING;
        int held = sort(slots[slot]);
        if (thing == 0) slots[slot] = null;
        if (thing == 1) slots[slot] = make(now.people.get(k).number(), now.people.get(k));
        if (thing == 2) slots[slot] = sheets[k] instanceof short[] s ? s.clone() : ((float[]) sheets[k]).clone();
        if (thing == 3) slots[slot] = k;
        return held;
    }

    int ask(int slot, int kind) {
        if (!in(slot, 0, 4) || !in(kind, 0, 5)) return BAD;
        if (slots[slot] == null) return NOTHING;
        return CLASSES[kind].isInstance(slots[slot]) ? ((Vower) slots[slot]).worth() : KIND;
    }

    int item(int slot, int place) {
        if (!in(slot, 0, 4)) return BAD;
        if (slots[slot] == null) return NOTHING;
        if (sort(slots[slot]) != 2) return KIND;
        if (!in(place, 0, size(slots[slot]) - 1)) return INDEX;
        Integer v = at(slots[slot], place);
        return v == null ? KIND : v;
    }

    int rest(int slot, int n) {
        if (!in(slot, 0, 4)) return BAD;
        if (slots[slot] == null) return NOTHING;
        if (!(slots[slot] instanceof Integer)) return KIND;
        return n == 0 ? NO : (int) ((long) (Integer) slots[slot] % n);
    }

    int tell(int v) {
        if (waiting.size() == 60) return FULL;
        waiting.add(v);
        return waiting.size();
    }

    int check(int n) {
        List<Integer> said = waiting;
        waiting = new ArrayList<>();
        if (!in(n, 1, 30)) return BAD;
        if (image == null) return NO;
        List<Integer> due = new ArrayList<>();
        for (int k = 1; k <= n && image.hour + k <= 9999; k++) {
            World w = image.later(k);
            due.add(w.vows.size());
            due.add(w.lapsed);
        }
        if (said.equals(due)) return 0;
        int right = 0;
        while (right < said.size() && right < due.size() && said.get(right).equals(due.get(right))) right++;
        return 1 + right;
    }

    int keep() {
        image = now.twin();
        return image.people.size();
    }

    int back() {
        if (image == null) return NO;
        now = image.twin();
        return now.people.size();
    }

    int count(int what) {
        return switch (what) {
            case 0 -> now.people.size();
            case 1 -> now.vows.size();
            case 2 -> now.hour;
            case 3 -> (int) now.people.stream().filter(p -> p instanceof Struck).count();
            case 4 -> now.laws.size();
            case 5 -> waiting.size();
            case 6 -> tape.length();
            case 7 -> now.z;
            default -> BAD;
        };
    }
}
