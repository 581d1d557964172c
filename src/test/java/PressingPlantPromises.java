/** For each promise of the document ordinary inputs, the edges that it names, and wrong inputs. */
public final class PressingPlantPromises {
    private static final int BAD = -1, FULL = -2, FINDING = -3, STATE = -4, NONE = -9;
    private static final int NOTHING = 1, BEYOND = 2, UNLIKE = 3, NOUGHT = 4, SIZE = 5;

    private static int wrong = 0;
    private static String part = "";

    private static void due(String call, long got, long want) {
        if (got == want) return;
        wrong++;
        System.out.println(part + ": " + call + " answered " + got + ", due is " + want);
    }

    private static void found(PressingPlant x, String call, int got, int finding) {
        due(call, got, FINDING);
        due(call + ", then finding()", x.finding(), finding);
    }

    /** A refused call changes nothing but finding() and findings(). */
    private interface Call {
        int on(PressingPlant x);
    }

    private static void refused(PressingPlant x, String call, int want, Call c) {
        long before = x.digest();
        int asked = x.asked();
        long pence = x.pence();
        int finding = x.finding();
        due(call, c.on(x), want);
        due(call + ", then digest()", x.digest(), before);
        due(call + ", then asked()", x.asked(), asked);
        due(call + ", then pence()", x.pence(), pence);
        if (want != FINDING) due(call + ", then finding()", x.finding(), finding);
    }

    private static void write(PressingPlant x, int t, String text) {
        x.text(t, text.length());
        for (int i = 0; i < text.length(); i++) x.put(t, i, text.charAt(i));
    }

    private static int ruled(PressingPlant x, String text, int from) {
        write(x, 0, text);
        return x.rule(0, from);
    }

    private static int askedOf(PressingPlant x, int metal, int what) {
        due("told(" + metal + ", " + what + ")", x.told(metal, what), 1);
        return x.asked();
    }

    private static int askedOfRun(PressingPlant x, int r, int what) {
        due("runTold(" + r + ", " + what + ")", x.runTold(r, what), 1);
        return x.asked();
    }

    /** Sides 0 and 1: lacquers 0, 1; masters 2, 3; mothers 4, 5; stampers 6, 7 of side 0 and 8, 9 of side 1; all on day 0. */
    private static PressingPlant grown() {
        PressingPlant x = new PressingPlant();
        x.lacquer(0, 1);
        x.lacquer(1, 2);
        x.grow(0, 1, 3);
        x.grow(1, 1, 3);
        x.grow(2, 2, 4);
        x.grow(3, 2, 4);
        x.grow(4, 3, 5);
        x.grow(4, 3, 5);
        x.grow(5, 3, 5);
        x.grow(5, 3, 6);
        return x;
    }

    private static void newObject() {
        part = "1 PressingPlant";
        PressingPlant x = new PressingPlant();
        for (int what = 0; what <= 10; what++) due("count(" + what + ")", x.count(what), 0);
        due("asked()", x.asked(), 0);
        due("upper()", x.upper(), 0);
        due("lower()", x.lower(), 1);
        due("pence()", x.pence(), 0);
        due("finding()", x.finding(), 0);
        for (int f = 1; f <= 5; f++) due("findings(" + f + ")", x.findings(f), 0);
        due("constants", PressingPlant.BAD * 10000L + PressingPlant.FULL * 1000 + PressingPlant.FINDING * 100
            + PressingPlant.STATE * 10 + PressingPlant.NONE, -12349);
        PressingPlant other = new PressingPlant();
        x.later(5);
        due("another object's count(0)", other.count(0), 0);
    }

    private static void rows() {
        part = "2 row";
        PressingPlant x = new PressingPlant();
        due("row(5, 24)", x.row(5, 24), 24);
        due("row(0, 0)", x.row(0, 0), 0);
        due("count(9)", x.count(9), 2);
        refused(x, "row(0, 25)", BAD, o -> o.row(0, 25));
        refused(x, "row(6, 1)", BAD, o -> o.row(6, 1));
        refused(x, "row(-1, -1)", BAD, o -> o.row(-1, -1));
        found(x, "row(0, -1)", x.row(0, -1), SIZE);
        refused(x, "row(5, MIN)", FINDING, o -> o.row(5, Integer.MIN_VALUE));
        x.lay(5, 23, 8);
        due("row(5, 24) again", x.row(5, 24), 24);
        due("lay(5, 23, 1)", x.lay(5, 23, 1), 1);
        due("asked()", x.asked(), 0);

        part = "3 lay";
        due("lay(5, 0, MIN)", x.lay(5, 0, Integer.MIN_VALUE), 1);
        due("lay(5, 0, 7)", x.lay(5, 0, 7), 1);
        due("asked()", x.asked(), Integer.MIN_VALUE);
        refused(x, "lay(6, 0, 0)", BAD, o -> o.lay(6, 0, 0));
        refused(x, "lay(-1, 0, 0)", BAD, o -> o.lay(-1, 0, 0));
        found(x, "lay(1, 0, 0)", x.lay(1, 0, 0), NOTHING);
        found(x, "lay(5, 24, 0)", x.lay(5, 24, 0), BEYOND);
        found(x, "lay(5, -1, 0)", x.lay(5, -1, 0), BEYOND);
        found(x, "lay(0, 0, 0)", x.lay(0, 0, 0), BEYOND);
        due("asked() still", x.asked(), Integer.MIN_VALUE);

        part = "4 tear";
        due("tear(5)", x.tear(5), 1);
        due("count(9)", x.count(9), 1);
        found(x, "tear(5)", x.tear(5), NOTHING);
        found(x, "lay(5, 0, 0)", x.lay(5, 0, 0), NOTHING);
        refused(x, "tear(6)", BAD, o -> o.tear(6));
        refused(x, "tear(-1)", BAD, o -> o.tear(-1));
    }

    private static int place(PressingPlant x, int r, int i) {
        x.lay(r, i, 0);
        int was = x.asked();
        x.lay(r, i, was);
        return was;
    }

    private static void copies() {
        part = "5 copy";
        PressingPlant x = new PressingPlant();
        x.row(0, 5);
        x.row(1, 3);
        for (int i = 0; i < 5; i++) x.lay(0, i, 10 + i);
        due("copy(0, 0, 0, 1, 4)", x.copy(0, 0, 0, 1, 4), 1);
        int[] on = {10, 10, 11, 12, 13};
        for (int i = 0; i < 5; i++) due("place " + i, place(x, 0, i), on[i]);
        due("copy(0, 2, 0, 0, 3)", x.copy(0, 2, 0, 0, 3), 1);
        int[] backwards = {11, 12, 13, 12, 13};
        for (int i = 0; i < 5; i++) due("place " + i, place(x, 0, i), backwards[i]);
        due("copy(0, 1, 1, 1, 2)", x.copy(0, 1, 1, 1, 2), 1);
        due("place 0 of 1", place(x, 1, 0), 0);
        due("place 1 of 1", place(x, 1, 1), 12);
        due("place 2 of 1", place(x, 1, 2), 13);
        due("copy(0, 5, 1, 3, 0)", x.copy(0, 5, 1, 3, 0), 1);
        refused(x, "copy(6, 0, 0, 0, -1)", BAD, o -> o.copy(6, 0, 0, 0, -1));
        refused(x, "copy(0, 0, -1, 0, 1)", BAD, o -> o.copy(0, 0, -1, 0, 1));
        found(x, "copy(2, 0, 0, 0, -1)", x.copy(2, 0, 0, 0, -1), SIZE);
        found(x, "copy(2, 9, 0, 9, 1)", x.copy(2, 9, 0, 9, 1), NOTHING);
        found(x, "copy(0, 9, 2, 9, 1)", x.copy(0, 9, 2, 9, 1), NOTHING);
        found(x, "copy(0, 6, 1, 0, 0)", x.copy(0, 6, 1, 0, 0), BEYOND);
        found(x, "copy(0, -1, 1, 0, 0)", x.copy(0, -1, 1, 0, 0), BEYOND);
        found(x, "copy(0, 0, 1, 4, 0)", x.copy(0, 0, 1, 4, 0), BEYOND);
        found(x, "copy(0, 0, 1, -1, 0)", x.copy(0, 0, 1, -1, 0), BEYOND);
        found(x, "copy(0, 3, 1, 0, 3)", x.copy(0, 3, 1, 0, 3), BEYOND);
        found(x, "copy(0, 0, 1, 1, 3)", x.copy(0, 0, 1, 1, 3), BEYOND);
        refused(x, "copy(0, 0, 1, 0, MAX)", FINDING, o -> o.copy(0, 0, 1, 0, Integer.MAX_VALUE));
        refused(x, "copy(0, MAX, 1, 0, MAX)", FINDING,
            o -> o.copy(0, Integer.MAX_VALUE, 1, 0, Integer.MAX_VALUE));
    }

    private static void texts() {
        part = "6 text";
        PressingPlant x = new PressingPlant();
        due("text(3, 48)", x.text(3, 48), 48);
        due("text(0, 0)", x.text(0, 0), 0);
        due("count(10)", x.count(10), 2);
        refused(x, "text(0, 49)", BAD, o -> o.text(0, 49));
        refused(x, "text(4, 1)", BAD, o -> o.text(4, 1));
        refused(x, "text(-1, -1)", BAD, o -> o.text(-1, -1));
        found(x, "text(0, -1)", x.text(0, -1), SIZE);

        part = "7 put";
        due("put(3, 47, 255)", x.put(3, 47, 255), 1032);
        due("put(3, 47, 128)", x.put(3, 47, 128), 999);
        due("put(3, 47, 256 + 65)", x.put(3, 47, 256 + 65), 872);
        due("put(3, 47, 1)", x.put(3, 47, 1), 1065);
        due("text(3, 48) again", x.text(3, 48), 48);
        due("put(3, 47, 1)", x.put(3, 47, 1), 1032);
        refused(x, "put(4, 0, 0)", BAD, o -> o.put(4, 0, 0));
        refused(x, "put(-1, 0, 0)", BAD, o -> o.put(-1, 0, 0));
        found(x, "put(1, 0, 0)", x.put(1, 0, 0), NOTHING);
        found(x, "put(3, 48, 0)", x.put(3, 48, 0), BEYOND);
        found(x, "put(3, -1, 0)", x.put(3, -1, 0), BEYOND);
        found(x, "put(0, 0, 0)", x.put(0, 0, 0), BEYOND);

        part = "8 burn";
        due("burn(3)", x.burn(3), 1);
        due("count(10)", x.count(10), 1);
        found(x, "burn(3)", x.burn(3), NOTHING);
        refused(x, "burn(4)", BAD, o -> o.burn(4));
        refused(x, "burn(-1)", BAD, o -> o.burn(-1));
    }

    private static void faultOf(PressingPlant x, String text, int want) {
        write(x, 1, text);
        due("fault of '" + text + "'", x.fault(1), want);
    }

    private static void faults() {
        part = "9 fault";
        PressingPlant x = new PressingPlant();
        String[] sound = {"", "   ", "G015", "G3399", "W1", "W99999", "P70", "P09999", "N0", "Y7", " W12  G0123P117N3Y3 ",
            "W1W2W3", "N1 N1 Y1"};
        for (String text : sound) faultOf(x, text, NONE);
        faultOf(x, "X", 0);
        faultOf(x, "7", 0);
        faultOf(x, "g015", 0);
        faultOf(x, "  \u0000", 2);
        faultOf(x, "\u00e7", 0);
        faultOf(x, "G", 1);
        faultOf(x, "G4", 1);
        faultOf(x, "G0", 2);
        faultOf(x, "G04", 2);
        faultOf(x, "G01", 3);
        faultOf(x, "G01 5", 3);
        faultOf(x, "G 015", 1);
        faultOf(x, "G01555", 5);
        faultOf(x, "W", 1);
        faultOf(x, "W 1", 1);
        faultOf(x, "W123456", 6);
        faultOf(x, "P", 1);
        faultOf(x, "P8", 1);
        faultOf(x, "P1", 2);
        faultOf(x, "P1 2", 2);
        faultOf(x, "P112345", 6);
        faultOf(x, "N", 1);
        faultOf(x, "N8", 1);
        faultOf(x, "N11", 2);
        faultOf(x, "Y9", 1);
        faultOf(x, "Y01", 2);
        faultOf(x, "W5 5", 3);
        faultOf(x, "W12:", 3);
        faultOf(x, "W/", 1);
        faultOf(x, "G01:", 3);
        faultOf(x, "G015:", 4);
        faultOf(x, "P1:", 2);
        faultOf(x, "P1234:", 5);
        faultOf(x, "G01/", 3);
        faultOf(x, "P/1", 1);
        refused(x, "fault(4)", BAD, o -> o.fault(4));
        refused(x, "fault(-1)", BAD, o -> o.fault(-1));
        found(x, "fault(0)", x.fault(0), NOTHING);
    }

    private static void days() {
        part = "10 later";
        PressingPlant x = new PressingPlant();
        due("later(0)", x.later(0), 0);
        due("later(998)", x.later(998), 998);
        refused(x, "later(-1)", BAD, o -> o.later(-1));
        refused(x, "later(2)", BAD, o -> o.later(2));
        refused(x, "later(MAX)", BAD, o -> o.later(Integer.MAX_VALUE));
        due("later(1)", x.later(1), 999);
        due("count(0)", x.count(0), 999);
        refused(x, "later(1)", BAD, o -> o.later(1));
    }

    private static void lacquers() {
        part = "11 lacquer";
        PressingPlant x = new PressingPlant();
        due("lacquer(19, 9)", x.lacquer(19, 9), 0);
        due("lacquer(0, 0)", x.lacquer(0, 0), 1);
        refused(x, "lacquer(19, 1)", STATE, o -> o.lacquer(19, 1));
        refused(x, "lacquer(20, 0)", BAD, o -> o.lacquer(20, 0));
        refused(x, "lacquer(-1, 0)", BAD, o -> o.lacquer(-1, 0));
        refused(x, "lacquer(1, 10)", BAD, o -> o.lacquer(1, 10));
        refused(x, "lacquer(19, -1)", BAD, o -> o.lacquer(19, -1));
        x.state(1, 1);
        refused(x, "lacquer(0, 0) of a side with a broken one", STATE, o -> o.lacquer(0, 0));
        ruled(x, "G0199", 0);
        for (int m = 2; m < 40; m++) due("grow to " + m, x.grow(0, 1, 0), m);
        refused(x, "lacquer(5, 0), full", FULL, o -> o.lacquer(5, 0));
        refused(x, "lacquer(19, 0), full", FULL, o -> o.lacquer(19, 0));
        refused(x, "lacquer(20, 0), full", BAD, o -> o.lacquer(20, 0));
        refused(x, "grow(1, 1, 0), full", FULL, o -> o.grow(1, 1, 0));
        refused(x, "grow(40, 1, 0), full", BAD, o -> o.grow(40, 1, 0));
    }

    private static void growing() {
        part = "12 grow";
        PressingPlant x = grown();
        due("count(1)", x.count(1), 10);
        refused(x, "grow(0, 1, 0) twice", STATE, o -> o.grow(0, 1, 0));
        refused(x, "grow(0, 2, 0)", STATE, o -> o.grow(0, 2, 0));
        refused(x, "grow(6, 3, 0)", STATE, o -> o.grow(6, 3, 0));
        refused(x, "grow(0, 0, 0)", BAD, o -> o.grow(0, 0, 0));
        refused(x, "grow(0, 4, 0)", BAD, o -> o.grow(0, 4, 0));
        refused(x, "grow(10, 1, 0)", BAD, o -> o.grow(10, 1, 0));
        refused(x, "grow(-1, 1, 0)", BAD, o -> o.grow(-1, 1, 0));
        refused(x, "grow(2, 2, 10)", BAD, o -> o.grow(2, 2, 10));
        refused(x, "grow(2, 2, -1)", BAD, o -> o.grow(2, 2, -1));
        for (int i = 0; i < 5; i++) due("grow(2, 2, 0)", x.grow(2, 2, 0), 10 + i);
        refused(x, "grow(2, 2, 0), a seventh", STATE, o -> o.grow(2, 2, 0));
        for (int i = 0; i < 7; i++) due("grow(4, 3, 0)", x.grow(4, 3, 0), 15 + i);
        refused(x, "grow(4, 3, 0), a tenth", STATE, o -> o.grow(4, 3, 0));
        ruled(x, "G022 G331", 0);
        due("grow(0, 2, 0) by a rule: masters don't count", x.grow(0, 2, 0), 22);
        due("grow(0, 2, 0) by a rule", x.grow(0, 2, 0), 23);
        refused(x, "grow(0, 2, 0), a third", STATE, o -> o.grow(0, 2, 0));
        due("grow(6, 3, 0) by a rule", x.grow(6, 3, 0), 24);
        due("side of it", askedOf(x, 24, 1), 0);
        x.marry(0, 7, 8);
        refused(x, "grow(7, 3, 0) in a press", STATE, o -> o.grow(7, 3, 0));
        x.part(0);
        due("grow(7, 3, 0) out of it", x.grow(7, 3, 0), 25);
        for (int how = 1; how <= 3; how++) {
            x.state(22 + how, how);
            int m = 22 + how;
            refused(x, "grow(" + m + ") that is not there", STATE, o -> o.grow(m, 3, 0));
        }
        ruled(x, "G012", 1);
        refused(x, "grow(0, 1, 0) a day too early", STATE, o -> o.grow(0, 1, 0));
        x.later(1);
        due("grow(0, 1, 0)", x.grow(0, 1, 0), 26);
    }

    private static void states() {
        part = "13 state";
        PressingPlant x = grown();
        due("state(0, 2)", x.state(0, 2), 0);
        due("state(0, 2) again", x.state(0, 2), 2);
        due("count(8)", x.count(8), 2);
        due("state(0, 3)", x.state(0, 3), 2);
        due("state(0, 0)", x.state(0, 0), 3);
        due("count(2)", x.count(2), 10);
        due("state(0, 1)", x.state(0, 1), 0);
        due("count(2)", x.count(2), 9);
        refused(x, "state(0, 0), broken", STATE, o -> o.state(0, 0));
        refused(x, "state(0, 4)", BAD, o -> o.state(0, 4));
        refused(x, "state(0, -1)", BAD, o -> o.state(0, -1));
        refused(x, "state(10, 0)", BAD, o -> o.state(10, 0));
        refused(x, "state(-1, 0)", BAD, o -> o.state(-1, 0));
        x.marry(0, 6, 8);
        refused(x, "state(6, 2) in a press", STATE, o -> o.state(6, 2));
        refused(x, "state(8, 2) in a press", STATE, o -> o.state(8, 2));
        for (int c = 5; c < 120; c++) due("state(2, 0)", x.state(2, 0), 0);
        due("count(8)", x.count(8), 120);
        refused(x, "state(2, 0), full", FULL, o -> o.state(2, 0));
        refused(x, "state(0, 0), full, broken", STATE, o -> o.state(0, 0));
        refused(x, "state(6, 0), full, in a press", STATE, o -> o.state(6, 0));
        refused(x, "state(6, 4), full", BAD, o -> o.state(6, 4));

        part = "16 asOf";
        x = new PressingPlant();
        x.later(3);
        x.lacquer(0, 0);
        due("asOf(0, 2)", x.asOf(0, 2), NONE);
        due("asOf(0, 3)", x.asOf(0, 3), 0);
        x.later(2);
        x.state(0, 2);
        x.state(0, 3);
        x.later(2);
        x.lacquer(1, 0);
        x.state(1, 1);
        x.state(0, 2);
        due("asOf(0, 4)", x.asOf(0, 4), 0);
        due("asOf(0, 5)", x.asOf(0, 5), 3);
        due("asOf(0, 6)", x.asOf(0, 6), 3);
        due("asOf(0, 7)", x.asOf(0, 7), 2);
        due("asOf(0, 999)", x.asOf(0, 999), 2);
        due("asOf(1, 6)", x.asOf(1, 6), NONE);
        due("asOf(1, 7)", x.asOf(1, 7), 1);
        refused(x, "asOf(2, 0)", BAD, o -> o.asOf(2, 0));
        refused(x, "asOf(-1, 0)", BAD, o -> o.asOf(-1, 0));
        refused(x, "asOf(0, 1000)", BAD, o -> o.asOf(0, 1000));
        refused(x, "asOf(0, -1)", BAD, o -> o.asOf(0, -1));
    }

    private static void metalsTold() {
        part = "14 told";
        PressingPlant x = grown();
        x.later(4);
        x.grow(5, 3, 9);
        x.state(10, 2);
        int[] want = {3, 1, 5, 9, 4, 2, 0};
        for (int what = 0; what <= 6; what++) due("told(10, " + what + ")", askedOf(x, 10, what), want[what]);
        int[] first = {0, 1, NONE, 2, 0, 0, 1};
        for (int what = 0; what <= 6; what++) due("told(1, " + what + ")", askedOf(x, 1, what), first[what]);
        due("told(5, 6)", askedOf(x, 5, 6), 3);
        refused(x, "told(11, 0)", BAD, o -> o.told(11, 0));
        refused(x, "told(-1, 0)", BAD, o -> o.told(-1, 0));
        refused(x, "told(0, 7)", BAD, o -> o.told(0, 7));
        refused(x, "told(0, -1)", BAD, o -> o.told(0, -1));

        part = "15 mark";
        due("mark(0, 0)", x.mark(0, 0), 4);
        due("mark(1, 0)", x.mark(1, 0), 5);
        due("mark(2, 1)", x.mark(2, 1), 1);
        due("mark(4, 2)", x.mark(4, 2), 2);
        due("mark(5, 2)", x.mark(5, 2), 2);
        x.state(4, 3);
        due("mark(2, 1)", x.mark(2, 1), 0);
        due("mark(0, 0), lost ones too", x.mark(0, 0), 4);
        x.marry(2, 6, 8);
        x.run(2, 30, true);
        x.run(2, 7, false);
        due("mark(6, 3)", x.mark(6, 3), 67);
        due("mark(8, 3)", x.mark(8, 3), 67);
        due("mark(7, 3)", x.mark(7, 3), 0);
        due("mark(4, 2), one of them in a press", x.mark(4, 2), 2);
        due("mark(0, 0), runs aside", x.mark(0, 0), 4);
        for (int kind = 1; kind <= 3; kind++) found(x, "mark(0, " + kind + ")", x.mark(0, kind), UNLIKE);
        found(x, "mark(6, 0)", x.mark(6, 0), UNLIKE);
        refused(x, "mark(0, 4)", BAD, o -> o.mark(0, 4));
        refused(x, "mark(0, -1)", BAD, o -> o.mark(0, -1));
        refused(x, "mark(11, 3)", BAD, o -> o.mark(11, 3));
        refused(x, "mark(-1, 3)", BAD, o -> o.mark(-1, 3));

        part = "17 lead";
        due("lead(8)", x.lead(8), 3);
        due("asked()", x.asked(), 1);
        due("lead(2)", x.lead(2), 1);
        due("asked()", x.asked(), 0);
        due("lead(1)", x.lead(1), 0);
        due("asked()", x.asked(), 1);
        refused(x, "lead(11)", BAD, o -> o.lead(11));
        refused(x, "lead(-1)", BAD, o -> o.lead(-1));
        ruled(x, "G331", 0);
        for (int m = 10; m < 39; m++) {
            if (m == 10) x.state(10, 0);
            due("grow(" + m + ", 3, 0)", x.grow(m, 3, 0), m + 1);
        }
        due("lead(39)", x.lead(39), 32);
        due("asked()", x.asked(), 1);
        due("mark(1, 0)", x.mark(1, 0), 34);
    }

    private static void presses() {
        part = "18 marry";
        PressingPlant x = grown();
        due("marry(5, 6, 7)", x.marry(5, 6, 7), 1);
        refused(x, "marry(6, 8, 9)", BAD, o -> o.marry(6, 8, 9));
        refused(x, "marry(-1, 8, 9)", BAD, o -> o.marry(-1, 8, 9));
        refused(x, "marry(0, 8, 8)", BAD, o -> o.marry(0, 8, 8));
        refused(x, "marry(0, 8, 10)", BAD, o -> o.marry(0, 8, 10));
        refused(x, "marry(0, -1, 8)", BAD, o -> o.marry(0, -1, 8));
        found(x, "marry(5, 8, 5)", x.marry(5, 8, 5), UNLIKE);
        found(x, "marry(5, 0, 8)", x.marry(5, 0, 8), UNLIKE);
        found(x, "marry(0, 6, 5)", x.marry(0, 6, 5), UNLIKE);
        refused(x, "marry(5, 8, 9)", STATE, o -> o.marry(5, 8, 9));
        refused(x, "marry(0, 6, 8)", STATE, o -> o.marry(0, 6, 8));
        refused(x, "marry(0, 8, 7)", STATE, o -> o.marry(0, 8, 7));
        x.state(9, 2);
        refused(x, "marry(0, 8, 9), one lent", STATE, o -> o.marry(0, 8, 9));
        refused(x, "marry(0, 9, 8), one lent", STATE, o -> o.marry(0, 9, 8));
        x.state(9, 0);
        due("marry(0, 9, 8)", x.marry(0, 9, 8), 1);

        part = "20 held";
        due("held(0, 0)", x.held(0, 0), 9);
        due("held(0, 1)", x.held(0, 1), 8);
        due("held(5, 1)", x.held(5, 1), 7);
        found(x, "held(1, 0)", x.held(1, 0), NOTHING);
        refused(x, "held(1, 2)", BAD, o -> o.held(1, 2));
        refused(x, "held(1, -1)", BAD, o -> o.held(1, -1));
        refused(x, "held(6, 0)", BAD, o -> o.held(6, 0));
        refused(x, "held(-1, 0)", BAD, o -> o.held(-1, 0));

        part = "19 part";
        due("part(0)", x.part(0), 9);
        found(x, "part(0)", x.part(0), NOTHING);
        found(x, "held(0, 1)", x.held(0, 1), NOTHING);
        due("held(5, 0)", x.held(5, 0), 6);
        refused(x, "part(6)", BAD, o -> o.part(6));
        refused(x, "part(-1)", BAD, o -> o.part(-1));
        due("state(9, 3), free again", x.state(9, 3), 0);

        part = "21 off";
        long before = x.digest();
        due("off(0, 8, -8)", x.off(0, 8, -8), 1);
        due("digest() tells it", x.digest() == before ? 1 : 0, 0);
        due("off(0, 0, 0)", x.off(0, 0, 0), 1);
        due("digest()", x.digest(), before);
        refused(x, "off(0, 9, 0)", BAD, o -> o.off(0, 9, 0));
        refused(x, "off(0, -9, 0)", BAD, o -> o.off(0, -9, 0));
        refused(x, "off(0, 0, 9)", BAD, o -> o.off(0, 0, 9));
        refused(x, "off(0, 0, -9)", BAD, o -> o.off(0, 0, -9));
        refused(x, "off(6, 0, 0)", BAD, o -> o.off(6, 0, 0));
        refused(x, "off(-1, 0, 0)", BAD, o -> o.off(-1, 0, 0));
    }

    private static void runs() {
        part = "22 run";
        PressingPlant x = grown();
        x.marry(3, 6, 8);
        x.later(2);
        due("run(3, 400, true)", x.run(3, 400, true), 0);
        refused(x, "run(3, 201, false)", STATE, o -> o.run(3, 201, false));
        refused(x, "run(3, 101, true)", STATE, o -> o.run(3, 101, true));
        due("run(3, 200, false)", x.run(3, 200, false), 1);
        refused(x, "run(3, 1, false)", STATE, o -> o.run(3, 1, false));
        x.part(3);
        x.marry(3, 7, 8);
        refused(x, "run(3, 1, false), face 1 worn", STATE, o -> o.run(3, 1, false));
        x.part(3);
        x.marry(3, 8, 7);
        refused(x, "run(3, 1, false), face 0 worn", STATE, o -> o.run(3, 1, false));
        refused(x, "run(3, 0, false)", BAD, o -> o.run(3, 0, false));
        refused(x, "run(3, 10001, false)", BAD, o -> o.run(3, 10001, false));
        refused(x, "run(6, 1, false)", BAD, o -> o.run(6, 1, false));
        refused(x, "run(-1, 1, false)", BAD, o -> o.run(-1, 1, false));
        found(x, "run(0, 1, false)", x.run(0, 1, false), NOTHING);
        ruled(x, "W99999", 2);
        due("run(3, 10000, true)", x.run(3, 10000, true), 2);

        part = "23 runTold";
        int[] first = {3, 2, 400, 1, 6, 8, 0};
        for (int what = 0; what <= 6; what++) due("runTold(0, " + what + ")", askedOfRun(x, 0, what), first[what]);
        int[] last = {3, 2, 10000, 1, 8, 7, 0};
        for (int what = 0; what <= 6; what++) due("runTold(2, " + what + ")", askedOfRun(x, 2, what), last[what]);
        due("runTold(1, 3)", askedOfRun(x, 1, 3), 0);
        x.sell(0, 50, 1);
        x.sell(0, 20, 2);
        x.back(0, 30, 1);
        due("runTold(0, 6)", askedOfRun(x, 0, 6), 40);
        due("runTold(1, 6)", askedOfRun(x, 1, 6), 0);
        refused(x, "runTold(3, 0)", BAD, o -> o.runTold(3, 0));
        refused(x, "runTold(-1, 0)", BAD, o -> o.runTold(-1, 0));
        refused(x, "runTold(0, 7)", BAD, o -> o.runTold(0, 7));
        refused(x, "runTold(0, -1)", BAD, o -> o.runTold(0, -1));

        part = "24 mean";
        due("mean(6)", x.mean(6), 1);
        due("asked()", x.asked(), 300);
        due("mean(8)", x.mean(8), 1);
        due("asked()", x.asked(), 10600 / 3);
        due("mean(7)", x.mean(7), 1);
        due("asked()", x.asked(), 10000);
        found(x, "mean(9)", x.mean(9), NOUGHT);
        found(x, "mean(5)", x.mean(5), UNLIKE);
        refused(x, "mean(10)", BAD, o -> o.mean(10));
        refused(x, "mean(-1)", BAD, o -> o.mean(-1));

        part = "22 run";
        for (int r = 3; r < 30; r++) due("run(3, 1, false)", x.run(3, 1, false), r);
        refused(x, "run(3, 1, false), full", FULL, o -> o.run(3, 1, false));
        refused(x, "run(3, 0, false), full", BAD, o -> o.run(3, 0, false));
        found(x, "run(0, 1, false), full", x.run(0, 1, false), NOTHING);
        ruled(x, "W1", 2);
        refused(x, "run(3, 1, false), full and worn", FULL, o -> o.run(3, 1, false));
    }

    private static void rules() {
        part = "25 rule";
        PressingPlant x = new PressingPlant();
        due("rule 'W500'", ruled(x, "W500", 10), 0);
        x.text(0, 4);
        due("force(1) of a text that changed since", x.force(1, 0, 0, 10, 0), 500);
        due("rule of blanks", x.rule(0, 0), 1);
        write(x, 0, "W");
        refused(x, "rule(0, 0) with a fault", STATE, o -> o.rule(0, 0));
        found(x, "rule(1, 0)", x.rule(1, 0), NOTHING);
        refused(x, "rule(4, 0)", BAD, o -> o.rule(4, 0));
        refused(x, "rule(-1, 0)", BAD, o -> o.rule(-1, 0));
        refused(x, "rule(0, 1000)", BAD, o -> o.rule(0, 1000));
        refused(x, "rule(1, -1)", BAD, o -> o.rule(1, -1));
        due("count(4)", x.count(4), 2);
        x.text(2, 0);
        for (int r = 2; r < 24; r++) due("rule(2, 999)", x.rule(2, 999), r);
        refused(x, "rule(2, 0), full", FULL, o -> o.rule(2, 0));
        refused(x, "rule(1, 0), full", FULL, o -> o.rule(1, 0));
        refused(x, "rule(0, 0), full", FULL, o -> o.rule(0, 0));
        refused(x, "rule(0, -1), full", BAD, o -> o.rule(0, -1));

        part = "26 force";
        x = new PressingPlant();
        for (int a = 0; a < 4; a++) {
            for (int b = 0; b < 4; b++) {
                int want = a == 0 && b == 1 ? 1 : a == 1 && b == 2 ? 6 : a == 2 && b == 3 ? 9 : 0;
                due("force(0, " + a + ", " + b + ")", x.force(0, a, b, 0, 0), want);
            }
        }
        due("force(1)", x.force(1, -5, 77, 0, 0), 1000);
        due("force(2)", x.force(2, 7, -5, 0, 0), 0);
        due("force(3)", x.force(3, 7, 99, 999, 999), 1);
        refused(x, "force(4)", BAD, o -> o.force(4, 0, 0, 0, 0));
        refused(x, "force(-1)", BAD, o -> o.force(-1, 0, 0, 0, 0));
        refused(x, "force(0, 4, 0)", BAD, o -> o.force(0, 4, 0, 0, 0));
        refused(x, "force(0, 0, 4)", BAD, o -> o.force(0, 0, 4, 0, 0));
        refused(x, "force(0, -1, 0)", BAD, o -> o.force(0, -1, 0, 0, 0));
        refused(x, "force(0, 0, -1)", BAD, o -> o.force(0, 0, -1, 0, 0));
        refused(x, "force(2, 8)", BAD, o -> o.force(2, 8, 0, 0, 0));
        refused(x, "force(3, -1)", BAD, o -> o.force(3, -1, 0, 0, 0));
        refused(x, "force, day 1000", BAD, o -> o.force(1, 0, 0, 1000, 0));
        refused(x, "force, day -1", BAD, o -> o.force(1, 0, 0, -1, 0));
        refused(x, "force, known 1000", BAD, o -> o.force(1, 0, 0, 0, 1000));
        refused(x, "force, known -1", BAD, o -> o.force(1, 0, 0, 0, -1));

        x.later(5);
        ruled(x, "W10 P33 N3 G0042", 20);
        x.later(2);
        ruled(x, "W20W21", 10);
        x.later(2);
        ruled(x, "Y3W30N3Y3 P39999", 20);
        ruled(x, "N3", 30);
        int[][] want = {
            {1, 0, 9, 999, 1000, NONE}, {1, 0, 10, 6, 1000, NONE}, {1, 0, 10, 7, 21, 1}, {1, 0, 20, 4, 1000, NONE},
            {1, 0, 20, 5, 10, 0}, {1, 0, 20, 8, 10, 0}, {1, 0, 20, 9, 30, 2}, {1, 0, 19, 9, 21, 1},
            {1, 0, 999, 7, 10, 0}, {2, 3, 20, 5, 3, 0}, {2, 3, 20, 9, 9999, 2}, {2, 3, 19, 9, 0, NONE},
            {2, 2, 20, 9, 0, NONE}, {3, 3, 20, 8, 0, 0}, {3, 3, 20, 9, 1, 2}, {3, 3, 30, 9, 0, 3},
            {3, 3, 19, 9, 1, NONE}, {3, 4, 30, 9, 1, NONE}, {0, 0, 20, 5, 42, 0}, {0, 0, 19, 5, 0, NONE}};
        for (int[] w : want) {
            String of = w[0] + ", " + w[1] + ", 0, " + w[2] + ", " + w[3] + ")";
            part = "26 force";
            due("force(" + of, x.force(w[0], w[1], 0, w[2], w[3]), w[4]);
            part = "27 why";
            due("why(" + of, x.why(w[0], w[1], 0, w[2], w[3]), w[5]);
        }
        due("why(1) of other a, b", x.why(1, 99, -9, 20, 9), 2);
        refused(x, "why(4)", BAD, o -> o.why(4, 0, 0, 0, 0));
        refused(x, "why(0, 4, 0)", BAD, o -> o.why(0, 4, 0, 0, 0));
        refused(x, "why(0, 0, 4)", BAD, o -> o.why(0, 0, 4, 0, 0));
        refused(x, "why(2, 8)", BAD, o -> o.why(2, 8, 0, 0, 0));
        refused(x, "why, day 1000", BAD, o -> o.why(1, 0, 0, 1000, 0));
        refused(x, "why, known -1", BAD, o -> o.why(1, 0, 0, 0, -1));
    }

    /** Runs 0 (stampers 6, 8) on day 1, 1 (7, 9) on day 1, 2 (6, 9) on day 3, 3 (7, 6) on day 5. */
    private static PressingPlant pressed() {
        PressingPlant x = grown();
        x.later(1);
        x.marry(0, 6, 8);
        x.marry(1, 7, 9);
        x.run(0, 10, false);
        x.run(1, 20, false);
        x.later(2);
        x.part(0);
        x.part(1);
        x.marry(0, 6, 9);
        x.run(0, 40, true);
        x.later(2);
        x.part(0);
        x.marry(0, 7, 6);
        x.run(0, 80, false);
        return x;
    }

    private static void causeIs(PressingPlant x, int i, int... want) {
        for (int what = 0; what < 6; what++) {
            due("causeTold(" + i + ", " + what + ")", x.causeTold(i, what), want[what]);
        }
    }

    private static void clicks() {
        part = "28 report";
        PressingPlant x = pressed();
        due("report(2, 0, 999, true)", x.report(2, 0, 999, true), 1);
        due("count(5)", x.count(5), 1);
        refused(x, "report(4, 0, 0, true)", BAD, o -> o.report(4, 0, 0, true));
        refused(x, "report(-1, 0, 0, true)", BAD, o -> o.report(-1, 0, 0, true));
        refused(x, "report(0, 2, 0, true)", BAD, o -> o.report(0, 2, 0, true));
        refused(x, "report(0, -1, 0, true)", BAD, o -> o.report(0, -1, 0, true));
        refused(x, "report(0, 0, 1000, true)", BAD, o -> o.report(0, 0, 1000, true));
        refused(x, "report(0, 0, -1, true)", BAD, o -> o.report(0, 0, -1, true));
        for (int i = 2; i <= 60; i++) due("report(0, 1, 3, false)", x.report(0, 1, 3, false), i);
        refused(x, "report(0, 0, 0, true), full", FULL, o -> o.report(0, 0, 0, true));
        refused(x, "report(4, 0, 0, true), full", BAD, o -> o.report(4, 0, 0, true));

        part = "29 cause, 30 causeTold";
        x = pressed();
        due("causeTold(0, 0), none yet", x.causeTold(0, 0), NONE);
        due("cause(100, 0)", x.cause(100, 0), 0);
        due("causeTold(0, 0) of no places", x.causeTold(0, 0), NONE);
        x.report(2, 0, 100, true);
        x.report(0, 0, 100, false);
        due("cause(100, 0)", x.cause(100, 0), 1);
        due("asked()", x.asked(), 0);
        causeIs(x, 0, 6, 3, NONE, NONE, 899, 120);
        part = "31 rivals";
        due("rivals(100, 0)", x.rivals(100, 0), 2);
        part = "29 cause, 30 causeTold";
        x.report(3, 1, 100, false);
        due("cause(100, 0)", x.cause(100, 0), 1);
        causeIs(x, 0, NONE, 3, 2, 0, 100, 40);
        due("cause(100, 1)", x.cause(100, 1), 1);
        due("asked()", x.asked(), 0);
        causeIs(x, 0, NONE, 3, 2, 0, 100, 40);
        part = "31 rivals";
        due("rivals(100, 0)", x.rivals(100, 0), 1);
        due("rivals(100, 1)", x.rivals(100, 1), 2);
        due("rivals(100, 2), mother, master, lacquer too", x.rivals(100, 2), 6);
        part = "29 cause, 30 causeTold";
        due("causeTold(1, 0)", x.causeTold(1, 0), NONE);
        due("causeTold(-1, 0)", x.causeTold(-1, 0), NONE);
        refused(x, "causeTold(0, 6)", BAD, o -> o.causeTold(0, 6));
        refused(x, "causeTold(9, -1)", BAD, o -> o.causeTold(9, -1));
        x.report(0, 0, 200, true);
        x.report(1, 0, 200, true);
        due("cause(200, 0)", x.cause(200, 0), 1);
        causeIs(x, 0, 0, 0, NONE, NONE, 200, 150);
        x.run(0, 5, false);
        due("causeTold(0, 5), as it was then", x.causeTold(0, 5), 150);
        x.report(0, 1, 200, true);
        due("cause(200, 0)", x.cause(200, 0), 2);
        causeIs(x, 0, 0, 0, NONE, NONE, 200, 155);
        causeIs(x, 1, 1, 0, NONE, NONE, 200, 70);
        refused(x, "cause(1000, 0)", BAD, o -> o.cause(1000, 0));
        refused(x, "cause(-1, 0)", BAD, o -> o.cause(-1, 0));
        refused(x, "cause(0, 61)", BAD, o -> o.cause(0, 61));
        refused(x, "cause(0, -1)", BAD, o -> o.cause(0, -1));
        causeIs(x, 1, 1, 0, NONE, NONE, 200, 70);
    }

    /** Four sides, each on a face of its own: no three places explain clicks on all of them. */
    private static void noCause() {
        part = "29 cause, NONE";
        PressingPlant x = new PressingPlant();
        for (int side = 0; side < 4; side++) {
            x.lacquer(side, 0);
            int m = x.grow(x.count(1) - 1, 1, 0);
            m = x.grow(m, 2, 0);
            x.grow(m, 3, 0);
        }
        x.marry(0, 3, 7);
        x.marry(1, 11, 15);
        x.run(0, 1, false);
        x.run(1, 2, false);
        x.report(0, 0, 0, true);
        x.report(0, 1, 0, true);
        x.report(1, 0, 0, true);
        due("cause(0, 0)", x.cause(0, 0), 3);
        causeIs(x, 0, 0, 0, NONE, NONE, 0, 1);
        causeIs(x, 1, 4, 0, NONE, NONE, 0, 1);
        causeIs(x, 2, 8, 0, NONE, NONE, 0, 2);
        due("rivals(0, 0)", x.rivals(0, 0), 125);
        due("nextTest(0, 0)", x.nextTest(0, 0), 11);
        due("asked()", x.asked(), 125);
        x.report(1, 1, 0, true);
        due("cause(0, 60)", x.cause(0, 60), NONE);
        due("asked() still", x.asked(), 125);
        causeIs(x, 2, 8, 0, NONE, NONE, 0, 2);
        due("rivals(0, 60)", x.rivals(0, 60), NONE);
        due("nextTest(0, 60)", x.nextTest(0, 60), NONE);
        x.report(0, 0, 5, false);
        x.report(0, 1, 5, true);
        x.report(1, 0, 5, false);
        x.report(1, 1, 5, false);
        due("nextTest(5, 0), none left", x.nextTest(5, 0), NONE);
        due("asked() still", x.asked(), 125);
        x.report(0, 1, 5, false);
        due("cause(5, 0), heard and not heard", x.cause(5, 0), NONE);
        due("cause(5, 1)", x.cause(5, 1), 1);
        due("asked()", x.asked(), 1);

        part = "29 cause, none at all";
        x = new PressingPlant();
        due("cause(0, 0)", x.cause(0, 0), 0);
        due("rivals(0, 0)", x.rivals(0, 0), 1);
        due("nextTest(0, 0)", x.nextTest(0, 0), NONE);
    }

    private static void nextTests() {
        part = "32 nextTest";
        PressingPlant x = pressed();
        x.report(0, 0, 50, true);
        // Rivals: lacquer 0, master 2, mother 4, stamper 6 from day 1, run 0's face 0.
        due("rivals(50, 0)", x.rivals(50, 0), 5);
        // Faces: 0/1 on none; 1/0 on three of them; 1/1 on none; 2/0 on four; 3/0 on three.
        due("nextTest(50, 0)", x.nextTest(50, 0), 10);
        due("asked()", x.asked(), 3);
        x.report(1, 0, 50, false);
        // Left: stamper 6 from day 1, run 0's face 0.
        due("nextTest(50, 0)", x.nextTest(50, 0), 20);
        due("asked()", x.asked(), 1);
        due("cause(50, 1)", x.cause(50, 1), 1);
        due("asked()", x.asked(), 0);
        refused(x, "nextTest(1000, 0)", BAD, o -> o.nextTest(1000, 0));
        refused(x, "nextTest(-1, 0)", BAD, o -> o.nextTest(-1, 0));
        refused(x, "nextTest(0, 61)", BAD, o -> o.nextTest(0, 61));
        refused(x, "nextTest(0, -1)", BAD, o -> o.nextTest(0, -1));
        refused(x, "rivals(1000, 0)", BAD, o -> o.rivals(1000, 0));
        refused(x, "rivals(-1, 0)", BAD, o -> o.rivals(-1, 0));
        refused(x, "rivals(0, -1)", BAD, o -> o.rivals(0, -1));
        refused(x, "rivals(0, 61)", BAD, o -> o.rivals(0, 61));
    }

    private static void recalls() {
        part = "33 recall";
        PressingPlant x = pressed();
        x.sell(0, 9, 1);
        x.sell(1, 18, 1);
        x.sell(2, 36, 1);
        x.sell(3, 72, 1);
        x.sell(3, 1, 2);
        x.back(2, 6, 1);
        due("recall(0, 0, 1), a run with both faces once", x.recall(0, 0, 1), 9 + 18 + 30 + 72);
        due("recall(0, 1, 1), grown on day 0", x.recall(0, 1, 1), 0);
        due("recall(1, 0, 1)", x.recall(1, 0, 1), 9 + 18 + 30);
        due("recall(6, 1, 1)", x.recall(6, 1, 1), 9 + 30 + 72);
        due("recall(6, 2, 1)", x.recall(6, 2, 1), 30 + 72);
        due("recall(6, 5, 1)", x.recall(6, 5, 1), 72);
        due("recall(6, 6, 1)", x.recall(6, 6, 1), 0);
        due("recall(7, 5, 2)", x.recall(7, 5, 2), 1);
        due("recall(7, 5, 0)", x.recall(7, 5, 0), 0);
        refused(x, "recall(10, 0, 0)", BAD, o -> o.recall(10, 0, 0));
        refused(x, "recall(-1, 0, 0)", BAD, o -> o.recall(-1, 0, 0));
        refused(x, "recall(0, 1000, 0)", BAD, o -> o.recall(0, 1000, 0));
        refused(x, "recall(0, -1, 0)", BAD, o -> o.recall(0, -1, 0));
        refused(x, "recall(0, 0, 8)", BAD, o -> o.recall(0, 0, 8));
        refused(x, "recall(0, 0, -1)", BAD, o -> o.recall(0, 0, -1));
    }

    private static void swishes() {
        part = "34 swish";
        PressingPlant x = grown();
        x.marry(0, 6, 8);
        x.off(0, -7, 5);
        x.run(0, 1, false);
        x.off(0, 2, -8);
        x.run(0, 1, false);
        x.off(0, 0, 0);
        due("swish(0, 0)", x.swish(0, 0), 7);
        due("swish(0, 1)", x.swish(0, 1), 4);
        due("swish(0, 2)", x.swish(0, 2), 6);
        due("swish(0, 3)", x.swish(0, 3), 4);
        due("swish(0, 500)", x.swish(0, 500), 3);
        due("swish(0, 600)", x.swish(0, 600), 2);
        due("swish(0, 999)", x.swish(0, 999), 0);
        due("swish(1, 0)", x.swish(1, 0), 2);
        due("swish(1, 875)", x.swish(1, 875), 1);
        due("swish(1, 877)", x.swish(1, 877), 0);
        refused(x, "swish(2, 0)", BAD, o -> o.swish(2, 0));
        refused(x, "swish(-1, 0)", BAD, o -> o.swish(-1, 0));
        refused(x, "swish(0, 1000)", BAD, o -> o.swish(0, 1000));
        refused(x, "swish(0, -1)", BAD, o -> o.swish(0, -1));

        part = "35 swishRun";
        x.row(0, 2);
        x.row(1, 2);
        x.lay(0, 1, 1);
        x.lay(1, 0, 3);
        x.lay(1, 1, 9);
        due("swishRun(0, 1)", x.swishRun(0, 1), 1);
        due("asked()", x.asked(), 3);
        x.lay(1, 0, 6);
        x.lay(1, 1, 4);
        due("swishRun(0, 1)", x.swishRun(0, 1), 0);
        due("asked()", x.asked(), 1);
        x.lay(1, 0, Integer.MIN_VALUE);
        due("swishRun(0, 1), far off", x.swishRun(0, 1), 1);
        due("asked()", x.asked(), 1000000000);
        x.lay(1, 0, -999999997);
        x.lay(1, 1, 7);
        due("swishRun(0, 1), just so far", x.swishRun(0, 1), 1);
        due("asked()", x.asked(), 999999999);
        x.row(2, 0);
        due("swishRun(2, 2)", x.swishRun(2, 2), 0);
        due("asked()", x.asked(), 0);
        x.row(3, 1);
        due("swishRun(3, 3)", x.swishRun(3, 3), 1);
        due("asked()", x.asked(), 2);
        found(x, "swishRun(4, 3)", x.swishRun(4, 3), NOTHING);
        found(x, "swishRun(3, 4)", x.swishRun(3, 4), NOTHING);
        x.lay(3, 0, 1000);
        found(x, "swishRun(3, 1)", x.swishRun(3, 1), SIZE);
        x.row(4, 1);
        found(x, "swishRun(3, 4)", x.swishRun(3, 4), UNLIKE);
        x.lay(3, 0, -1);
        found(x, "swishRun(3, 4)", x.swishRun(3, 4), UNLIKE);
        refused(x, "swishRun(6, 0)", BAD, o -> o.swishRun(6, 0));
        refused(x, "swishRun(0, -1)", BAD, o -> o.swishRun(0, -1));
        x = new PressingPlant();
        x.row(0, 1);
        x.lay(0, 0, 1000);
        found(x, "swishRun(0, 0), no runs", x.swishRun(0, 0), UNLIKE);
        x.lay(0, 0, 999);
        refused(x, "swishRun(0, 0), no runs", NONE, o -> o.swishRun(0, 0));
    }

    private static void sales() {
        part = "36 sell";
        PressingPlant x = pressed();
        due("sell(2, 40, 7)", x.sell(2, 40, 7), 0);
        refused(x, "sell(2, 1, 7)", STATE, o -> o.sell(2, 1, 7));
        due("sell(1, 5, 0)", x.sell(1, 5, 0), 15);
        refused(x, "sell(1, 16, 0)", STATE, o -> o.sell(1, 16, 0));
        refused(x, "sell(1, 0, 0)", BAD, o -> o.sell(1, 0, 0));
        refused(x, "sell(1, 10001, 0)", BAD, o -> o.sell(1, 10001, 0));
        refused(x, "sell(4, 1, 0)", BAD, o -> o.sell(4, 1, 0));
        refused(x, "sell(-1, 1, 0)", BAD, o -> o.sell(-1, 1, 0));
        refused(x, "sell(1, 1, 8)", BAD, o -> o.sell(1, 1, 8));
        refused(x, "sell(1, 1, -1)", BAD, o -> o.sell(1, 1, -1));
        PressingPlant large = pressed();
        ruled(large, "W99999", 0);
        large.run(0, 10000, false);
        due("sell(4, 10000, 0)", large.sell(4, 10000, 0), 0);
        part = "37 back";
        due("back(4, 10000, 0)", large.back(4, 10000, 0), 10000);
        part = "36 sell";
        ruled(x, "N4", 6);
        due("sell(1, 1, 4), a day ahead", x.sell(1, 1, 4), 14);
        x.later(1);
        refused(x, "sell(1, 1, 4)", STATE, o -> o.sell(1, 1, 4));
        ruled(x, "Y4", 6);
        due("sell(1, 1, 4), struck", x.sell(1, 1, 4), 13);

        part = "37 back";
        due("back(1, 2, 0)", x.back(1, 2, 0), 15);
        refused(x, "back(1, 4, 0)", STATE, o -> o.back(1, 4, 0));
        due("back(1, 3, 0)", x.back(1, 3, 0), 18);
        refused(x, "back(1, 1, 0)", STATE, o -> o.back(1, 1, 0));
        refused(x, "back(1, 1, 7)", STATE, o -> o.back(1, 1, 7));
        due("sell(1, 18, 0), again", x.sell(1, 18, 0), 0);
        ruled(x, "N7", 0);
        due("back(2, 1, 7), where none may be sold", x.back(2, 1, 7), 1);
        refused(x, "back(2, 0, 7)", BAD, o -> o.back(2, 0, 7));
        refused(x, "back(2, 10001, 7)", BAD, o -> o.back(2, 10001, 7));
        refused(x, "back(4, 1, 0)", BAD, o -> o.back(4, 1, 0));
        refused(x, "back(-1, 1, 0)", BAD, o -> o.back(-1, 1, 0));
        refused(x, "back(2, 1, 8)", BAD, o -> o.back(2, 1, 8));
        refused(x, "back(2, 1, -1)", BAD, o -> o.back(2, 1, -1));
        int made = x.count(6);
        for (int s = made; s < 60; s++) due("sell(3, 1, 0)", x.sell(3, 1, 0), 79 - s + made);
        due("count(6)", x.count(6), 60);
        refused(x, "sell(3, 1, 0), full", FULL, o -> o.sell(3, 1, 0));
        refused(x, "sell(1, 1, 0), full, none left", FULL, o -> o.sell(1, 1, 0));
        refused(x, "sell(3, 0, 0), full", BAD, o -> o.sell(3, 0, 0));
        refused(x, "back(3, 1, 0), full", FULL, o -> o.back(3, 1, 0));
        refused(x, "back(3, 1, 5), full, none sold there", FULL, o -> o.back(3, 1, 5));
        refused(x, "back(3, 0, 5), full", BAD, o -> o.back(3, 0, 5));
    }

    private static void owed(PressingPlant x, int side, int land, int from, int to, long pence) {
        String call = "owe(" + side + ", " + land + ", " + from + ", " + to + ")";
        due(call, x.owe(side, land, from, to), 1);
        due(call + ", then pence()", x.pence(), pence);
    }

    private static void owing() {
        part = "38 owe, 39 pence";
        PressingPlant x = pressed();
        ruled(x, "P25 P3100", 5);
        x.sell(0, 4, 2);
        x.sell(3, 7, 2);
        x.sell(2, 6, 3);
        x.later(3);
        x.back(3, 2, 2);
        ruled(x, "P28", 7);
        x.sell(1, 3, 2);
        owed(x, 0, 2, 0, 999, 4 * 5 + 2 * 7 * 5 - 2 * 2 * 8 + 3 * 8);
        owed(x, 0, 2, 5, 5, 4 * 5 + 2 * 7 * 5);
        owed(x, 0, 2, 6, 7, 0);
        owed(x, 0, 2, 8, 8, -2 * 2 * 8 + 3 * 8);
        owed(x, 1, 2, 0, 999, 4 * 5 + 3 * 8);
        owed(x, 1, 3, 5, 999, 600);
        owed(x, 1, 4, 0, 999, 0);
        owed(x, 7, 2, 0, 999, 0);
        owed(x, 1, 2, 0, 999, 44);
        refused(x, "owe(1, 2, 9, 5)", BAD, o -> o.owe(1, 2, 9, 5));
        refused(x, "owe(1, 2, 6, 5)", BAD, o -> o.owe(1, 2, 6, 5));
        refused(x, "owe(1, 2, 999, 0)", BAD, o -> o.owe(1, 2, 999, 0));
        due("pence() behind what was refused", x.pence(), 44);
        owed(x, 1, 2, 999, 999, 0);
        owed(x, 1, 2, 0, 0, 0);
        ruled(x, "P21000", 0);
        owed(x, 1, 2, 0, 999, 44);
        ruled(x, "P29", 8);
        owed(x, 1, 2, 0, 999, 4 * 5 + 3 * 9);
        refused(x, "owe(20, 0, 0, 0)", BAD, o -> o.owe(20, 0, 0, 0));
        refused(x, "owe(-1, 0, 0, 0)", BAD, o -> o.owe(-1, 0, 0, 0));
        refused(x, "owe(0, 8, 0, 0)", BAD, o -> o.owe(0, 8, 0, 0));
        refused(x, "owe(0, -1, 0, 0)", BAD, o -> o.owe(0, -1, 0, 0));
        refused(x, "owe(0, 0, -1, 0)", BAD, o -> o.owe(0, 0, -1, 0));
        refused(x, "owe(0, 0, 1000, 0)", BAD, o -> o.owe(0, 0, 1000, 0));
        refused(x, "owe(0, 0, 0, 1000)", BAD, o -> o.owe(0, 0, 0, 1000));
        refused(x, "owe(0, 0, 0, -1)", BAD, o -> o.owe(0, 0, 0, -1));
    }

    private static void shares() {
        part = "40 share, 47 upper, 48 lower";
        PressingPlant x = pressed();
        x.sell(0, 6, 0);
        x.sell(3, 30, 1);
        due("share(0)", x.share(0), 1);
        due("upper()", x.upper(), 0);
        due("lower()", x.lower(), 1);
        x.back(0, 2, 0);
        x.back(3, 8, 1);
        due("share(0), a run with both faces once", x.share(0), 1);
        due("upper()", x.upper(), 5);
        due("lower()", x.lower(), 18);
        due("share(1)", x.share(1), 1);
        due("upper()", x.upper(), 1);
        due("lower()", x.lower(), 3);
        x.back(0, 4, 0);
        due("share(1), all of them", x.share(1), 1);
        due("upper()", x.upper(), 1);
        due("lower()", x.lower(), 1);
        x.share(0);
        found(x, "share(2)", x.share(2), NOUGHT);
        refused(x, "share(20)", BAD, o -> o.share(20));
        refused(x, "share(-1)", BAD, o -> o.share(-1));
        due("upper() still", x.upper(), 7);
        due("lower() still", x.lower(), 18);
    }

    private static void plans() {
        part = "41 order";
        PressingPlant x = new PressingPlant();
        due("plan(3, 1), no orders", x.plan(3, 1), 0);
        refused(x, "planned(0), no orders", BAD, o -> o.planned(0));
        due("order(100000, 999)", x.order(100000, 999), 0);
        due("planned(0), behind the plan", x.planned(0), NONE);
        due("order(1, 0)", x.order(1, 0), 1);
        refused(x, "order(0, 0)", BAD, o -> o.order(0, 0));
        refused(x, "order(100001, 0)", BAD, o -> o.order(100001, 0));
        refused(x, "order(1, 1000)", BAD, o -> o.order(1, 1000));
        refused(x, "order(1, -1)", BAD, o -> o.order(1, -1));
        for (int i = 2; i < 9; i++) due("order(5, 3)", x.order(5, 3), i);
        refused(x, "order(1, 1), full", FULL, o -> o.order(1, 1));
        refused(x, "order(0, 1), full", BAD, o -> o.order(0, 1));

        part = "42 plan, 43 planned";
        due("plan(1, 5)", x.plan(1, 5), 3);
        due("asked(), the least bits", x.asked(), 4 + 8 + 16);
        due("plan(2, 5)", x.plan(2, 5), 6);
        due("asked()", x.asked(), 4 + 8 + 16 + 32 + 64 + 128);
        int[] row = {NONE, NONE, 0, 0, 0, 1, 1, 1, NONE};
        for (int i = 0; i < 9; i++) due("planned(" + i + ")", x.planned(i), row[i]);
        due("plan(1, 100)", x.plan(1, 100), 3);
        due("asked(), order 0 takes a thousand days", x.asked(), 28);
        due("plan(1, 101)", x.plan(1, 101), 4);
        due("asked()", x.asked(), 29);
        due("planned(0)", x.planned(0), 0);
        due("planned(5)", x.planned(5), NONE);
        due("plan(3, 10000)", x.plan(3, 10000), 8);
        due("asked(), none is met on day 0", x.asked(), 511 - 2);
        int[] three = {0, NONE, 0, 0, 0, 1, 1, 1, 2};
        for (int i = 0; i < 9; i++) due("planned(" + i + ")", x.planned(i), three[i]);
        refused(x, "plan(0, 1)", BAD, o -> o.plan(0, 1));
        refused(x, "plan(4, 1)", BAD, o -> o.plan(4, 1));
        refused(x, "plan(1, 0)", BAD, o -> o.plan(1, 0));
        refused(x, "plan(1, 10001)", BAD, o -> o.plan(1, 10001));
        refused(x, "planned(9)", BAD, o -> o.planned(9));
        refused(x, "planned(-1)", BAD, o -> o.planned(-1));
        due("planned(8), still", x.planned(8), 2);
        x.later(3);
        due("plan(3, 10000), three days later", x.plan(3, 10000), 1);
        due("asked()", x.asked(), 1);

        x = new PressingPlant();
        x.order(3, 3);
        x.order(2, 4);
        x.order(1, 1);
        x.order(2, 4);
        due("plan(2, 1)", x.plan(2, 1), 3);
        due("asked()", x.asked(), 1 + 2 + 8);
        int[] first = {0, 1, NONE, 1};
        for (int i = 0; i < 4; i++) due("planned(" + i + ")", x.planned(i), first[i]);
        x.order(2, 3);
        due("plan(2, 1)", x.plan(2, 1), 3);
        due("asked(), of alike ones the least bits", x.asked(), 1 + 2 + 8);

        x = new PressingPlant();
        x.order(1, 4);
        x.order(1, 4);
        x.order(3, 4);
        x.order(3, 4);
        due("plan(2, 1)", x.plan(2, 1), 4);
        int[] parted = {0, 1, 0, 1};
        for (int i = 0; i < 4; i++) due("planned(" + i + "), not both small ones on one", x.planned(i), parted[i]);
        due("plan(3, 1)", x.plan(3, 1), 4);
        int[] wide = {0, 0, 1, 2};
        for (int i = 0; i < 4; i++) due("planned(" + i + ")", x.planned(i), wide[i]);
    }

    private static void guesses() {
        part = "44 guess";
        PressingPlant x = pressed();
        x.sell(3, 10, 0);
        due("guess(0), on the day", x.guess(0), 15);
        due("guess(1)", x.guess(1), 0);
        x.later(6);
        due("guess(0), six days on", x.guess(0), 15);
        x.later(1);
        due("guess(0), seven days on", x.guess(0), 0);
        x.sell(2, 13, 1);
        x.back(3, 4, 0);
        due("guess(0): 9 against 10", x.guess(0), 9);
        due("guess(1): 13 against 0", x.guess(1), 19);
        x.sell(0, 1, 0);
        due("guess(0): 10 against 10", x.guess(0), 10);
        x.back(3, 3, 0);
        due("guess(0): 7 against 10, half of -3 cut", x.guess(0), 6);
        x.later(6);
        due("guess(0), six days on: none ahead", x.guess(0), 6);
        x.later(1);
        due("guess(0): 0 against 7", x.guess(0), 0);
        x.later(7);
        due("guess(0), two weeks on", x.guess(0), 0);
        refused(x, "guess(20)", BAD, o -> o.guess(20));
        refused(x, "guess(-1)", BAD, o -> o.guess(-1));

        part = "45 cost";
        x = pressed();
        x.sell(3, 10, 0);
        due("cost(0, 15, 7, 9)", x.cost(0, 15, 7, 9), 0);
        due("pence()", x.pence(), 0);
        due("cost(0, 12, 7, 9)", x.cost(0, 12, 7, 9), 1);
        due("pence()", x.pence(), 21);
        due("cost(0, 17, 7, 9)", x.cost(0, 17, 7, 9), 2);
        due("pence()", x.pence(), 18);
        due("cost(0, 14, 7, 9), one too many", x.cost(0, 14, 7, 9), 1);
        due("pence()", x.pence(), 7);
        due("cost(0, 16, 7, 9), one too few", x.cost(0, 16, 7, 9), 2);
        due("pence()", x.pence(), 9);
        due("cost(5, 100000, 1000, 1000)", x.cost(5, 100000, 1000, 1000), 2);
        due("pence()", x.pence(), 100000000);
        due("cost(0, 0, 0, 0)", x.cost(0, 0, 0, 0), 1);
        due("pence()", x.pence(), 0);
        x.cost(0, 12, 7, 9);
        refused(x, "cost(20, 0, 0, 0)", BAD, o -> o.cost(20, 0, 0, 0));
        refused(x, "cost(-1, 0, 0, 0)", BAD, o -> o.cost(-1, 0, 0, 0));
        refused(x, "cost(0, -1, 0, 0)", BAD, o -> o.cost(0, -1, 0, 0));
        refused(x, "cost(0, 100001, 0, 0)", BAD, o -> o.cost(0, 100001, 0, 0));
        refused(x, "cost(0, 0, 1001, 0)", BAD, o -> o.cost(0, 0, 1001, 0));
        refused(x, "cost(0, 0, -1, 0)", BAD, o -> o.cost(0, 0, -1, 0));
        refused(x, "cost(0, 0, 0, 1001)", BAD, o -> o.cost(0, 0, 0, 1001));
        refused(x, "cost(0, 0, 0, -1)", BAD, o -> o.cost(0, 0, 0, -1));
    }

    private static void tellings() {
        part = "46 asked";
        PressingPlant x = pressed();
        x.told(9, 2);
        due("asked() of told()", x.asked(), 5);
        x.mark(0, 0);
        x.force(1, 0, 0, 0, 0);
        x.recall(0, 0, 0);
        x.rivals(0, 0);
        x.digest();
        due("asked() after calls that tell nothing by it", x.asked(), 5);

        part = "49 count";
        x.report(0, 0, 0, true);
        x.report(0, 0, 0, true);
        x.sell(0, 1, 0);
        x.order(1, 1);
        x.row(2, 2);
        x.row(3, 2);
        x.row(3, 3);
        x.text(1, 1);
        x.state(8, 3);
        ruled(x, "", 3);
        int[] want = {5, 10, 9, 4, 1, 2, 1, 1, 1, 2, 2};
        for (int what = 0; what <= 10; what++) due("count(" + what + ")", x.count(what), want[what]);
        refused(x, "count(11)", BAD, o -> o.count(11));
        refused(x, "count(-1)", BAD, o -> o.count(-1));

        part = "50 finding, 51 findings";
        x = pressed();
        x.tear(0);
        x.tear(1);
        x.row(0, 1);
        x.lay(0, 1, 0);
        x.mark(0, 1);
        x.share(5);
        x.row(0, -1);
        int[] times = {2, 1, 1, 1, 1};
        for (int f = 1; f <= 5; f++) due("findings(" + f + ")", x.findings(f), times[f - 1]);
        due("finding()", x.finding(), SIZE);
        x.tear(9);
        due("finding() after BAD", x.finding(), SIZE);
        x.held(5, 0);
        due("finding()", x.finding(), NOTHING);
        due("findings(1)", x.findings(1), 3);
        refused(x, "findings(0)", BAD, o -> o.findings(0));
        refused(x, "findings(6)", BAD, o -> o.findings(6));
        refused(x, "findings(-1)", BAD, o -> o.findings(-1));
    }

    /** The digest from what the other calls tell; what no call tells is given. */
    private static void digests() {
        part = "52 digest";
        PressingPlant x = pressed();
        x.off(1, 3, -4);
        ruled(x, "W77 P19N1", 2);
        x.report(2, 1, 40, false);
        x.report(3, 0, 41, true);
        x.sell(2, 9, 0);
        x.back(2, 4, 0);
        x.order(77, 12);
        x.row(1, 2);
        x.lay(1, 1, -6);
        x.text(2, 2);
        x.put(2, 0, 200);
        long h = 17;
        for (int what = 0; what <= 10; what++) h = 31 * h + x.count(what);
        for (int m = 0; m < 10; m++) {
            for (int what = 0; what <= 6; what++) h = 31 * h + askedOf(x, m, what);
        }
        long[] presses = {7, 6, 0, 0, NONE, NONE, 3, -4, NONE, NONE, 0, 0, NONE, NONE, 0, 0, NONE, NONE, 0, 0, NONE, NONE, 0, 0};
        for (long v : presses) h = 31 * h + v;
        for (int r = 0; r < 4; r++) {
            for (int what = 0; what <= 6; what++) h = 31 * h + askedOfRun(x, r, what);
        }
        long[] rule = {5, 2, 77};
        for (long v : rule) h = 31 * h + v;
        for (int land = 0; land < 8; land++) {
            h = 31 * h + (land == 1 ? 9 : 0);
            h = 31 * h + (land == 1 ? 0 : 1);
        }
        long[] rest = {2, 1, 40, 0, 3, 0, 41, 1, 2, 9, 0, 5, 2, -4, 0, 5, 77, 12, -1, 2, 0, -6, -1, -1, -1, -1,
            9, 'W', '7', '7', ' ', 'P', '1', '9', 'N', '1', -1, 2, -56, 32, -1};
        for (long v : rest) h = 31 * h + v;
        int asked = x.asked();
        due("digest()", x.digest(), h);
        due("asked() behind it", x.asked(), asked);
    }

    public static void main(String[] args) {
        newObject();
        rows();
        copies();
        texts();
        faults();
        days();
        lacquers();
        growing();
        states();
        metalsTold();
        presses();
        runs();
        rules();
        clicks();
        noCause();
        nextTests();
        recalls();
        swishes();
        sales();
        owing();
        shares();
        plans();
        guesses();
        tellings();
        digests();
        System.out.println(wrong == 0 ? "all promises hold" : wrong + " answers are not as due");
        if (wrong != 0) System.exit(1);
    }
}
