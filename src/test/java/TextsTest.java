import java.util.Random;

/** Promises 24 to 28, and what TEXTS give (promises 8, 22, 23). */
public final class TextsTest {
    public static void main(String[] args) {
        feed();
        trim();
        text();
        faults();
        depths();
        values();
        keepTexts();
        textTold();
        why();
        textsByLot();
        Due.end();
    }

    private static final int BLANKS = 0x20202020;

    private static void feed() {
        NoonVows x = new NoonVows();
        for (int k = 1; k <= 8; k++) {
            Due.is("24: bytes", x.feed(BLANKS, BLANKS, BLANKS), 12 * k);
        }
        Due.is("24: FULL", x.feed(0, 0, 0), NoonVows.FULL);
        Due.is("24: FULL changes nothing", x.count(6), 96);
        x.trim(85);
        Due.is("24: 97 would be too many", x.feed(0, 0, 0), NoonVows.FULL);
        x.trim(84);
        Due.is("24: 96 are not", x.feed(0, 0, 0), 96);
        x.trim(0);
        x.feed(0x6b656570, 0x20662b6e, 0x20202020);
        Due.is("24: the highest byte first: keep f+n", x.text(), 0);
        Due.is("24: two names", x.textTold(0, 1), 2);
        x.feed(-1, Integer.MIN_VALUE, 0);
        Due.is("24: bytes of all sorts", x.text(), -100);
    }

    private static void trim() {
        NoonVows x = new NoonVows();
        Due.is("25: none", x.trim(0), 0);
        Due.is("25: more than there are", x.trim(1), NoonVows.BAD);
        x.feed(0x66656520, 0x6b2b6b28, 0);
        Due.is("25: below 0", x.trim(-1), NoonVows.BAD);
        Due.is("25: above", x.trim(13), NoonVows.BAD);
        Due.is("25: all", x.trim(12), 12);
        Due.is("25: fee k+k", x.trim(7), 7);
        Due.is("25: count", x.count(6), 7);
        Due.is("25: the first ones stay", x.text(), 0);
    }

    private static void text() {
        NoonVows x = new NoonVows();
        Due.is("26: nothing is no TEXT", x.text(), -100);
        for (int k = 0; k < 14; k++) {
            Due.is("26: number", Tapes.text(x, "fee " + k), k);
            Due.is("26: the tape is used up", x.count(6), 0);
        }
        Due.is("26: FULL", Tapes.text(x, "fee 99"), NoonVows.FULL);
        Due.is("26: the tape is used up", x.count(6), 0);
        Due.is("26: FAULT is ahead of FULL", Tapes.text(x, "fee ?"), -104);
        Due.is("26: the tape is used up", x.count(6), 0);
        Due.is("26: FULL changes nothing", x.fee(), 13);
        Due.is("26: FULL changes nothing", x.count(4), 14);
    }

    private static void fault(String tape, int place) {
        NoonVows x = new NoonVows();
        Due.is("26: " + tape, Tapes.text(x, tape), place < 0 ? 0 : -100 - place);
        Due.is("26: TEXTS by " + tape, x.count(4), place < 0 ? 1 : 0);
    }

    private static void faults() {
        fault("keep f", -1);
        fault("  keep   f  ", -1);
        fault("keep(f)", -1);
        fault("keep!f", -1);
        fault("fine p*e/2", -1);
        fault("   ", 3);
        fault("kee f", 0);
        fault(" keeps f", 1);
        fault("Keep f", 0);
        fault("12 f", 0);
        fault("keep", 4);
        fault("keep  ", 6);
        fault("keep5", 4);
        fault("keepf", 0);
        fault("keep k", 5);
        fault("fee f", 4);
        fault("fine k", 5);
        fault("fine p+l", 7);
        fault("keep ff", 5);
        fault("keep fa", 5);
        fault("keep fz", 5);
        fault("keep 12345", 5);
        fault("keep 00001", 5);
        fault("keep 0001", -1);
        fault("keep 5f", 6);
        fault("keep f5", 6);
        fault("keep f 5", 7);
        fault("keep f+", 7);
        fault("keep f+ ", 8);
        fault("keep +f", 5);
        fault("keep -1", 5);
        fault("keep (f", 7);
        fault("keep f)", 6);
        fault("keep ()", 6);
        fault("keep f!", 6);
        fault("keep 1<2<3", 8);
        fault("keep 1<2=3", 8);
        fault("keep 1<2&3>4|5=6", -1);
        fault("keep (1<2)<3", -1);
        fault("keep f||n", 7);
        fault("keep f<=n", 7);
        fault("keep f,n", 6);
        fault("keep f\u00e9", 6);
        fault("keep\tf", 4);
        fault("keep f\0", 6);
        fault("fee k " + " ".repeat(90), -1);
        fault("fee k+" + " ".repeat(90), 96);
    }

    private static void depths() {
        fault("fee " + "(".repeat(8) + "1" + ")".repeat(8), -1);
        fault("fee " + "(".repeat(9) + "1" + ")".repeat(9), 12);
        fault("fee " + "!".repeat(8) + "1", -1);
        fault("fee " + "!".repeat(9) + "1", 12);
        fault("fee " + "!(".repeat(8) + "1" + ")".repeat(8), -1);
        fault("fee " + "!(".repeat(8) + "!1" + ")".repeat(8), 20);
        fault("fee " + "!(".repeat(8) + "(1" + ")".repeat(9), 20);
        fault("fee " + "(".repeat(8) + "1" + ")".repeat(8) + "+" + "(".repeat(8) + "1" + ")".repeat(8), -1);
        fault("fee " + "!".repeat(8) + "1+" + "!".repeat(8) + "1", -1);
        fault("fee !(" + "!".repeat(7) + "1+" + "!".repeat(8) + "1)", 22);
        fault("fee " + "(1|1&1<1+1*".repeat(8) + "1" + ")".repeat(4), 96);
        fault("fee " + "(1+".repeat(8) + "(", 28);
    }

    private static void gives(String text, int value) {
        NoonVows x = new NoonVows();
        Due.is("26: " + text, Tapes.text(x, "fee " + text), 0);
        Due.is("22: " + text, x.fee(), value);
    }

    private static void values() {
        gives("7", 7);
        gives("2+3*4", 14);
        gives("(2+3)*4", 20);
        gives("10-3-2", 5);
        gives("100/7/2", 7);
        gives("100/(7/2)", 33);
        gives("(0-7)/2", -3);
        gives("5/0", 0);
        gives("0/0", 0);
        gives("9999*9999*9999", 9999 * 9999 * 9999);
        gives("(0-1024*1024*2048)/(0-1)", Integer.MIN_VALUE);
        gives("!0", 1);
        gives("!5", 0);
        gives("!!5", 1);
        gives("!0+1", 2);
        gives("!(0+1)", 0);
        gives("2<3", 1);
        gives("3<3", 0);
        gives("3=3", 1);
        gives("3=4", 0);
        gives("3>2", 1);
        gives("3>3", 0);
        gives("1+1=2", 1);
        gives("5&3", 1);
        gives("5&0", 0);
        gives("0|7", 1);
        gives("0|0", 0);
        gives("1|0&0", 1);
        gives("(1|0)&0", 0);
        gives("0&1|1", 1);
        gives("2=1|3", 1);
        gives("1<2&2<1", 0);
        gives("0&5/0", 0);
        gives("1|1&1<1+1*(1|1&1<1+1*(2))", 1);
        gives("0|1&1<1+1*(1|1&1<1+1*(2))", 1);
    }

    private static void keepTexts() {
        NoonVows x = new NoonVows();
        for (int kind = 0; kind < 6; kind++) {
            x.person(kind, 0, 40);
        }
        for (int one = 0; one < 5; one++) {
            x.vow(one, 5, one % 3);
        }
        Tapes.text(x, "keep f+10*w+n");
        int[] keeps = {41, 61, 41, 25, 61};
        for (int vow = 0; vow < 5; vow++) {
            Due.is("8: KEEPS by a TEXT", x.vowOf(vow, 3), keeps[vow]);
        }
        Tapes.text(x, "keep 0+30*!w");
        Due.is("8: 0 is a NUMBER", x.vowOf(0, 3), 30);
        Due.is("8: 0 is a NUMBER", x.vowOf(1, 3), 10);
        Tapes.text(x, "keep 9999");
        int[] most = {100, 100, 80, 50, 100};
        for (int vow = 0; vow < 5; vow++) {
            Due.is("8: KEEPS 100 at most", x.vowOf(vow, 3), most[vow]);
        }
        Tapes.text(x, "keep 0-1");
        int[] least = {0, 10, 0, 5, 30};
        for (int vow = 0; vow < 5; vow++) {
            Due.is("8: KEEPS 0 at least", x.vowOf(vow, 3), least[vow]);
        }
    }

    private static void textTold() {
        NoonVows x = new NoonVows();
        Due.is("27: none", x.textTold(0, 0), NoonVows.BAD);
        Tapes.text(x, "keep (f+12)*!w-n/f");
        Tapes.text(x, "fee 1");
        Tapes.text(x, "fine e=e");
        int[] leaves = {5, 1, 2};
        for (int k = 0; k < 3; k++) {
            Due.is("27: KEY", x.textTold(k, 0), k);
            Due.is("27: NUMBERS and NAMES", x.textTold(k, 1), leaves[k]);
        }
        Due.is("27: text", x.textTold(3, 0), NoonVows.BAD);
        Due.is("27: text", x.textTold(-1, 0), NoonVows.BAD);
        Due.is("27: what", x.textTold(0, 2), NoonVows.BAD);
        Due.is("27: what", x.textTold(0, -1), NoonVows.BAD);
    }

    private static void why() {
        NoonVows x = new NoonVows();
        Due.is("28: none", x.why(1), NoonVows.NONE);
        Tapes.text(x, "fee 5");
        Due.is("28: the only one", x.why(1), 0);
        Tapes.text(x, "fee 6");
        Tapes.text(x, "fine 7");
        Tapes.text(x, "fee k k");
        Due.is("28: the last", x.why(1), 1);
        Due.is("28: the last", x.why(2), 2);
        Due.is("28: none", x.why(0), NoonVows.NONE);
        Due.is("22: of the last", x.fee(), 6);
        Tapes.text(x, "fee 7+8*9?");
        Tapes.text(x, "fee 3-1");
        Due.is("26: nothing is left of what had a FAULT", x.fee(), 2);
        Due.is("26: nothing is left of what had a FAULT", x.textTold(3, 1), 2);
        Tapes.text(x, "fee !!7?");
        Tapes.text(x, "fee 3");
        Due.is("26: nothing is left of what had a FAULT", x.fee(), 3);
        Due.is("28: key", x.why(3), NoonVows.BAD);
        Due.is("28: key", x.why(-1), NoonVows.BAD);
    }

    /** Rows of words by lot against the Model: nearly all have a FAULT, at all sorts of places. */
    private static void textsByLot() {
        String[] pieces = {"f", "n", "1", "23", "(", "(", "!", "!", ")", "|", "&", "<", "=", "+", "*", "/", " ", "k"};
        Random lot = new Random(11);
        NoonVows x = new NoonVows();
        for (int k = 0; k < 60000 && !Due.anyWrong(); k++) {
            if (k % 40 == 0) {
                x = new NoonVows();
                x.keep();
            }
            StringBuilder tape = new StringBuilder("keep ");
            int many = lot.nextInt(60);
            boolean wantsPiece = true;
            for (int word = 0; word < many && tape.length() < 90; word++) {
                // Mostly one that fits, so that faults come late.
                String piece = lot.nextInt(12) == 0 ? pieces[lot.nextInt(pieces.length)]
                    : wantsPiece ? pieces[lot.nextInt(8)] : pieces[8 + lot.nextInt(8)];
                tape.append(piece);
                wantsPiece = wantsPiece ? !"fn123".contains(piece) : !piece.equals(")");
            }
            int fault = Model.fault(tape.toString());
            Due.is("26: " + tape, Tapes.text(x, tape.toString()), fault < 0 ? 0 : -100 - fault);
            x.back();
        }
    }
}
