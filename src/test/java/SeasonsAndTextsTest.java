/** Promises 14 to 21: the tape, rows of crops, texts, their faults, what is in force and what holds. */
public final class SeasonsAndTextsTest {
    private static final int NONE = NoRent.NONE;

    public static void main(String[] args) {
        row();
        rowsThatCantBe();
        crop();
        feedAndEnd();
        textsThatCanBe();
        faults();
        limits();
        textRefused();
        faultOfTheLatest();
        force();
        holds();
        wordsAreAsked();
        brokenSums();
        shortcuts();
        keptAsTold();
        Check.close();
    }

    private static NoRent fields(int... worth) {
        NoRent x = new NoRent();
        x.estate(0, 0);
        x.person(0, 0, 0);
        for (int w : worth) {
            x.field(0, w, 0, 0);
        }
        return x;
    }

    private static void row() {
        Check.part("promise 14");
        NoRent x = fields(100, 100, 100, 100, 100, 100);
        Check.due("all", Check.row(x, 1, 0, 5, Float.NaN, -1, 1000.5f, 8, 9), 6);
        Check.due("the TAPE is empty", x.count(9), 0);
        int[] sacks = {5, 6, 6, 6, 8, 9};
        for (int f = 0; f < 6; f++) {
            Check.due("crop(" + f + ", 1)", x.crop(f, 1), sacks[f]);
        }
        Check.due("twice", Check.row(x, 1, 0, 5), -4);
        Check.due("refused, and the TAPE is empty", x.count(9), 0);
        Check.due("one alone", Check.row(x, 2, 1, Float.POSITIVE_INFINITY, 7, Float.NEGATIVE_INFINITY), 3);
        Check.due("ahead of it", x.crop(1, 2), 7);
        Check.due("behind it", x.crop(3, 2), 7);
        Check.due("not of the ROW", x.crop(0, 2), NONE);
        Check.due("not of the ROW", x.crop(4, 2), NONE);
        Check.due("no number", Check.row(x, 3, 4, Float.NaN, -5), 2);
        Check.due("0 without", x.crop(4, 3), 0);
        Check.due("edges", Check.row(x, 4, 0, 0, -0f, 1000, Math.nextUp(1000f), Float.MIN_VALUE, Math.nextDown(0f)), 6);
        Check.due("0", x.crop(0, 4), 0);
        Check.due("-0 is within", x.crop(1, 4), 0);
        Check.due("1000", x.crop(2, 4), 1000);
        Check.due("above 1000: the mean", x.crop(3, 4), 500);
        Check.due("just above 0", x.crop(4, 4), 0);
        Check.due("just below 0", x.crop(5, 4), 0);
        x.go(1);
        Check.due("NOW itself", Check.row(x, 5, 0, 1), 1);
        Check.tape(x, 3f, 4f, 5f);
        x.end(9);
        Check.due("it breaks off", x.row(6, 2), 2);
        Check.due("whole", x.crop(3, 6), 4);
        Check.due("broken off", x.crop(4, 6), NONE);
        Check.tape(x, 3f);
        x.end(1);
        Check.due("a part of one float alone", x.row(7, 5), 0);
        Check.due("nothing", x.crop(5, 7), NONE);
        Check.due("but told", Check.row(x, 7, 0, 1), -4);
        x.go(6);
        Check.due("SACKS of WEEKS 1 .. 6", x.of(0, 2), (5 + 6 + 6 + 6 + 8 + 9) + 21 + 0 + 1500 + 1 + 7);
    }

    private static void rowsThatCantBe() {
        Check.part("promise 14, refused");
        NoRent x = fields(100, 100);
        x.go(3);
        Check.due("bad", Check.row(x, 400, 0, 1), -1);
        Check.due("bad first", Check.row(x, -1, 7, 1), -1);
        Check.due("no such FIELD", Check.row(x, 2, 2, 1), -2);
        Check.due("no such FIELD", Check.row(x, 4, -1, 1), -2);
        Check.due("a WEEK of the past", Check.row(x, 2, 0, 1), -3);
        x.end(0);
        Check.due("past first", x.row(2, 0), -3);
        Check.due("empty", x.row(4, 0), -6);
        Check.due("too many", Check.row(x, 4, 0, 1, 2, 3), -6);
        Check.due("too many from there on", Check.row(x, 4, 1, 1, 2), -6);
        Check.tape(x, 1f, 2f, 3f);
        x.end(9);
        Check.due("too many with the part", x.row(4, 0), -6);
        Check.due("status", x.status(), -6);
        Check.due("nothing told", x.crop(0, 4), NONE);
        Check.due("as many", Check.row(x, 399, 0, 1, 2), 2);
        refusedRow(x, 400, 0, -1);
        refusedRow(x, 4, 2, -2);
        refusedRow(x, 2, 0, -3);
        refusedRow(x, 399, 0, -4);
        refusedRow(x, 4, 1, -6);
    }

    /** Two floats, refused: what is fed behind them stands alone on the TAPE, and can be a ROW at once. */
    private static void refusedRow(NoRent x, int week, int from, int why) {
        x.image(0);
        Check.due("refused by " + why, Check.row(x, week, from, 1, 2), why);
        Check.due("status", x.status(), why);
        Check.due("the TAPE is empty behind " + why, x.count(9), 0);
        Check.due("fed anew", x.feed(Float.floatToRawIntBits(7), 0, 0, 0, 0), 20);
        x.end(4);
        Check.due("a ROW of it", x.row(5, 0), 1);
        Check.due("what was fed last", x.crop(0, 5), 7);
        x.back(0);
    }

    private static void crop() {
        Check.part("promise 15");
        NoRent x = fields(37, 1, 999, 1000, 50);
        Check.row(x, 9, 0, 12.3f, 99.99f, 0.1f, 1000f, 2.02f);
        Check.due("cut", x.crop(0, 9), (int) ((double) 12.3f * 37 / 100));
        Check.due("cut to 0", x.crop(1, 9), 0);
        Check.due("cut to 0", x.crop(2, 9), 0);
        Check.due("most", x.crop(3, 9), 10_000);
        Check.due("just above 1", x.crop(4, 9), 1);
        Check.due("no ROW", x.crop(0, 8), NONE);
        Check.due("no WEEK", x.crop(0, 400), NONE);
        Check.due("no WEEK", x.crop(0, -1), NONE);
        Check.due("no FIELD", x.crop(5, 9), NONE);
        Check.due("no FIELD", x.crop(-1, 9), NONE);
        // floats of every size, against what Java itself makes of their bits
        NoRent y = fields(1000);
        int week = 0;
        for (int exponent = 110; exponent < 140; exponent++) {
            float f = Float.intBitsToFloat(exponent << 23 | 0x2AAAAA);
            Check.row(y, week, 0, f);
            Check.due("of " + f, y.crop(0, week), f > 1000 ? 0 : (int) ((double) f * 1000 / 100));
            week++;
        }
    }

    private static void feedAndEnd() {
        Check.part("promises 16, 17");
        NoRent x = new NoRent();
        for (int i = 1; i <= 20; i++) {
            Check.due("feed", x.feed(i, -1, Check.MIN, Check.MAX, 0), 20 * i);
        }
        Check.due("full", x.feed(0, 0, 0, 0, 0), NONE);
        Check.due("count", x.count(9), 400);
        Check.due("too many", x.end(401), NONE);
        Check.due("below 0", x.end(-1), NONE);
        Check.due("all", x.end(400), 400);
        Check.due("less", x.end(381), 381);
        Check.due("no room for twenty", x.feed(0, 0, 0, 0, 0), NONE);
        Check.due("less", x.end(380), 380);
        Check.due("room", x.feed(0, 0, 0, 0, 0), 400);
        Check.due("none", x.end(0), 0);
        Check.due("none", x.end(1), NONE);
        Check.due("status is of others", x.status(), 0);
        // the highest byte first
        x.feed('k' << 24 | 'e' << 16 | 'e' << 8 | 'p', 0, 0, 0, 0);
        x.end(4);
        Check.due("keep", x.text(0), 0);
    }

    private static void textsThatCanBe() {
        Check.part("promise 18");
        String[] texts = {"keep", " keep ", "keep;ban;grab", "fair 1", "fair100000", "draw 0000000000000000000007",
            "strike 19 clause 11", "strike 0 clause 0", "step 0 1", "step 3 52", "step 00 052",
            "fair worth+rent-arrear*coin/sacks", "fair [fear + kin] * [[week]]", "draw price if estate < house",
            "keep if holds", "keep if not not out or banned and grabs", "keep if (holds)", "keep if ((1<2)or 2>1)and[1]=1",
            "keep if not 1 < 2", "keep if not(holds or out)and banned", "fair 1if holds", "keep if 1+2*3<4/5-6"};
        for (String text : texts) {
            Check.due("fault of \"" + text + "\"", Check.faultOf(text), NONE);
        }
    }

    private static void faults() {
        Check.part("promise 19");
        Object[][] faults = {
            {"", 0}, {"   ", 3}, {";", 0}, {"keep;", 5}, {"keep ; ", 7}, {"keep;;", 5}, {"keep keep", 5}, {"Keep", 0},
            {"kee", 0}, {"keeps", 0}, {"keepz", 0}, {"zkeep", 0}, {"keep`", 4}, {"keep{", 4}, {"keep/", 4}, {"fair 1:", 6}, {"keep1", 4}, {"fair", 4}, {"fair  ", 6}, {"fair ;", 5}, {"fair -1", 5},
            {"fair 1 2", 7}, {"fair 1+", 7}, {"fair 1+*2", 7}, {"fair (1)", 5}, {"fair [1", 7}, {"fair [1)", 7},
            {"fair []", 6}, {"fair 1]", 6}, {"fair holds", 5}, {"fair 1<2", 6}, {"fair 100001", 5},
            {"fair 99999999999999999999", 5}, {"fair 1 if", 9}, {"fair if 1<2", 5}, {"draw", 4}, {"keep 1", 5},
            {"keep if", 7}, {"keep if 1", 9}, {"keep if worth;", 13}, {"keep if 1<", 10}, {"keep if 1<2<3", 11},
            {"keep if 1==2", 10}, {"keep if 1<=2", 10}, {"keep if (1<2", 12}, {"keep if (1<2]", 12},
            {"keep if [1<2]", 10}, {"keep if (1)<2", 10}, {"keep if not", 11}, {"keep if holds holds", 14},
            {"keep if holds<1", 13}, {"keep if holds or", 16}, {"keep if or", 8}, {"keep if holds and or", 18},
            {"keep if 1+holds<2", 10}, {"keep if holds if out", 14}, {"strike", 6}, {"strike 20 clause 0", 7},
            {"strike 0 clause 12", 16}, {"strike 0 0", 9}, {"strike clause 0", 7}, {"strike 0 clause 0 if holds", 18},
            {"strike worth clause 0", 7}, {"step 4 1", 5}, {"step 0 0", 7}, {"step 0 53", 7}, {"step 0", 6},
            {"step 0 1 if holds", 9}, {"step 0 1 1", 9}, {"if holds", 0}, {"ban if fair", 7}, {"grab\u0000", 4},
            {"grab if 1\t<2", 9}, {"\u00e9", 0}, {"keep if not (not (holds)", 24}, {"ban if out)", 10}, {"fair price]", 10},
            {"keep if [week=1", 13}, {"keep if kin>(1)", 12}, {"fair 2;strike 1", 15}};
        for (Object[] fault : faults) {
            Check.due("fault of \"" + fault[0] + "\"", Check.faultOf((String) fault[0]), (Integer) fault[1]);
        }
    }

    private static void limits() {
        Check.part("terms II, limits");
        String twelve = "ban" + ";ban".repeat(11);
        Check.due("twelve", Check.faultOf(twelve), NONE);
        Check.due("thirteen", Check.faultOf(twelve + "; ban"), 49);
        Check.due("thirteen, none", Check.faultOf(twelve + "; "), 49);
        Check.due("thirteen, x", Check.faultOf(twelve + ";x"), 48);
        Check.due("50", Check.faultOf("fair 1" + "+1".repeat(49)), NONE);
        Check.due("51", Check.faultOf("fair 1" + "+1".repeat(50)), 105);
        Check.due("51 of more", Check.faultOf("fair 1" + "+1".repeat(60)), 105);
        Check.due("50 in two", Check.faultOf("fair 1" + "+1".repeat(24) + ";fair kin" + "+1".repeat(24)), NONE);
        Check.due("51 in two", Check.faultOf("fair 1" + "+1".repeat(24) + ";fair kin" + "+1".repeat(25)), 112);
        Check.due("PLAINS count", Check.faultOf("keep if holds" + " or out".repeat(49)), NONE);
        Check.due("PLAINS count", Check.faultOf("keep if holds" + " or out".repeat(50)), 13 + 49 * 7 + 4);
        Check.due("8 brackets", Check.faultOf("fair " + "[".repeat(8) + "1" + "]".repeat(8)), NONE);
        Check.due("9 brackets", Check.faultOf("fair " + "[".repeat(9) + "1" + "]".repeat(9)), 13);
        Check.due("8 of both", Check.faultOf("ban if ((((([[[1]]]=1)))))"), NONE);
        Check.due("9 of both", Check.faultOf("ban if ((((([[[[1]]]]=1)))))"), 15);
        Check.due("9 round", Check.faultOf("ban if " + "(".repeat(9) + "out" + ")".repeat(9)), 15);
        Check.due("8 and 8 beside", Check.faultOf("ban if " + "(".repeat(8) + "out" + ")".repeat(8) + " or "
            + "(".repeat(8) + "out" + ")".repeat(8)), NONE);
        Check.due("400 bytes", Check.faultOf("ban if " + "not ".repeat(97) + "holds"), NONE);
        Check.due("400 bytes of it", Check.faultOf("(".repeat(400)), 0);
        Check.due("400 bytes", Check.faultOf("fair 1" + " ".repeat(394)), NONE);
        Check.due("400 bytes", Check.faultOf("fair " + "0".repeat(395)), NONE);
        Check.due("400 bytes", Check.faultOf("fair " + "9".repeat(395)), 5);
        Check.due("400 bytes", Check.faultOf("a".repeat(400)), 0);
    }

    private static void textRefused() {
        Check.part("promise 18, refused");
        NoRent x = new NoRent();
        Check.due("bad", Check.text(x, 400, "keep"), -1);
        Check.due("bad", Check.text(x, -1, "keep"), -1);
        Check.due("the TAPE stays", x.count(9), 4);
        Check.due("edge", x.text(399), 0);
        Check.due("empty", x.text(0), -6);
        for (int i = 1; i < 20; i++) {
            Check.due("room", Check.text(x, 0, "keep"), i);
        }
        Check.due("no room", Check.text(x, 0, "kept"), -5);
        Check.due("ahead of reading it", x.fault(), NONE);
        Check.due("the TAPE stays", x.count(9), 4);
        Check.due("bad first", x.text(400), -1);
        Check.due("count", x.count(4), 20);
    }

    private static void faultOfTheLatest() {
        Check.part("promise 19, the latest");
        NoRent x = new NoRent();
        Check.text(x, 0, "keep x");
        Check.due("fault", x.fault(), 5);
        Check.text(x, 400, "x");
        Check.due("not read", x.fault(), 5);
        x.beside(0);
        Check.due("not read", x.fault(), 5);
        Check.tape(x, "x");
        x.beside(1);
        Check.due("read by beside()", x.fault(), 0);
        Check.tape(x, "keep");
        x.beside(1);
        Check.due("read well", x.fault(), NONE);
    }

    private static void force() {
        Check.part("promise 20");
        NoRent x = new NoRent();
        Check.text(x, 5, "keep;ban");
        Check.text(x, 10, "strike 0 clause 1;strike 1 clause 0;strike 2 clause 0");
        Check.text(x, 20, "strike 1 clause 0");
        Check.due("ahead of it", x.force(0, 1, 4), 0);
        Check.due("from it on", x.force(0, 1, 5), 1);
        Check.due("not struck yet", x.force(0, 1, 9), 1);
        Check.due("struck", x.force(0, 1, 10), 0);
        Check.due("another", x.force(0, 0, 10), 1);
        Check.due("not by itself", x.force(1, 0, 10), 1);
        Check.due("the strike is struck", x.force(1, 0, 20), 0);
        Check.due("so it is in force again", x.force(0, 1, 20), 1);
        Check.due("none told ahead strikes", x.force(2, 0, 399), 1);
        Check.due("no TEXT", x.force(3, 0, 0), NONE);
        Check.due("no TEXT", x.force(-1, 0, 0), NONE);
        Check.due("no CLAUSE", x.force(0, 2, 0), NONE);
        Check.due("no CLAUSE", x.force(0, -1, 0), NONE);
        Check.due("no WEEK", x.force(0, 0, 400), NONE);
        Check.due("no WEEK", x.force(0, 0, -1), NONE);
        // asking for another WEEK leaves what is in force NOW
        Check.due("NOW", x.holds(0, 0, NONE, NONE), 0);
        x.go(5);
        x.force(0, 0, 0);
        Check.due("NOW", x.holds(0, 0, NONE, NONE), 1);
        // a CLAUSE that is not there can be struck
        NoRent y = new NoRent();
        Check.text(y, 0, "keep");
        Check.text(y, 0, "strike 0 clause 11;strike 19 clause 0");
        Check.due("still", y.force(0, 0, 0), 1);
    }

    private static void holds() {
        Check.part("promise 21");
        NoRent x = fields(10);
        Check.text(x, 0, "keep;step 0 1;strike 9 clause 0;fair 1/0;draw 3 if 1>2;grab if holds");
        int[] all = {1, 0, 0, 0, 0, 1};
        for (int c = 0; c < 6; c++) {
            Check.due("clause " + c, x.holds(0, c, 0, 0), all[c]);
        }
        Check.due("of none", x.holds(0, 0, NONE, NONE), 1);
        Check.due("of none", x.holds(0, 5, NONE, 0), 0);
        Check.due("no PERSON", x.holds(0, 0, 1, 0), NONE);
        Check.due("no PERSON", x.holds(0, 0, -2, 0), NONE);
        Check.due("no FIELD", x.holds(0, 0, 0, 1), NONE);
        Check.due("no FIELD", x.holds(0, 0, 0, -2), NONE);
        Check.due("no CLAUSE", x.holds(0, 6, 0, 0), NONE);
        Check.due("no TEXT", x.holds(1, 0, 0, 0), NONE);
    }

    /** Asks by halves whether a SUM is what it should be. */
    private static void sumIs(NoRent x, String sum, long value, int person, int field) {
        String test = value < 0 ? "0-[" + sum + "]=" + -value : "[" + sum + "]=" + value;
        int t = Check.text(x, 0, "keep if " + test);
        Check.due(sum + " is " + value, x.holds(t, 0, person, field), 1);
        x.back(0);
    }

    private static void wordsAreAsked() {
        Check.part("terms II, words");
        NoRent x = new NoRent();
        x.estate(0, 0);
        x.estate(0, 0);
        x.person(7, 30, 40);
        x.person(7, 30, 40);
        x.person(8, 30, 41);
        x.field(1, 50, 60, 0);
        x.price(14, 33);
        Check.row(x, 13, 0, 4);
        x.go(14);
        x.image(0);
        // 60 asked: 30 pence and one SACK for 100, so 70 left
        String[] ofField = {"worth", "rent", "arrear", "estate"};
        int[] itsField = {50, 60, 0, 1};
        String[] ofPerson = {"coin", "sacks", "fear", "house", "kin"};
        int[] itsPerson = {70, 1, 40, 7, 1};
        for (int i = 0; i < 4; i++) {
            sumIs(x, ofField[i], itsField[i], 2, 0);
            sumIs(x, ofField[i], 0, 2, NONE);
        }
        for (int i = 0; i < 5; i++) {
            sumIs(x, ofPerson[i], itsPerson[i], 0, NONE);
            sumIs(x, ofPerson[i], 0, NONE, 0);
        }
        sumIs(x, "week", 14, NONE, NONE);
        sumIs(x, "price", 33, NONE, NONE);
        sumIs(x, "2+3*4", 14, 0, 0);
        sumIs(x, "20-3-4", 13, 0, 0);
        sumIs(x, "20-[3-4]", 21, 0, 0);
        sumIs(x, "100/7/2", 7, 0, 0);
        sumIs(x, "100/[7/2]", 33, 0, 0);
        sumIs(x, "2*3+4*5-6/4", 25, 0, 0);
        sumIs(x, "[0-7]/2", -3, 0, 0);
        sumIs(x, "7/[0-2]", -3, 0, 0);
        sumIs(x, "1-2*3", -5, 0, 0);
        sumIs(x, "2*[3+4]*5", 70, 0, 0);
        sumIs(x, "9-8/4*3+1", 4, 0, 0);
    }

    private static void brokenSums() {
        Check.part("terms II, BROKEN");
        Object[][] tests = {
            {"100000*10000=100000*10000", 1}, {"100000*10000+1>0", 0}, {"0-100000*10000<0", 1}, {"0-100000*10000-1<0", 0},
            {"100000*100000>0", 0}, {"100000*10001-100000>0", 0}, {"1/0=0", 0}, {"not 1/0=0", 0}, {"not not 1/0=0", 0},
            {"0/1=0", 1}, {"1/[1-1]=1/0", 0}};
        for (Object[] test : tests) {
            NoRent x = new NoRent();
            Check.text(x, 0, "keep if " + test[0]);
            Check.due((String) test[0], x.holds(0, 0, NONE, NONE), (Integer) test[1]);
        }
        NoRent x = new NoRent();
        Check.text(x, 0, "fair 1/0 if 1=1;draw 100000*100000;draw 1;fair 1 if 1/0=1");
        for (int c = 0; c < 4; c++) {
            Check.due("clause " + c, x.holds(0, c, NONE, NONE), c == 2 ? 1 : 0);
        }
    }

    private static void shortcuts() {
        Check.part("terms II, or, and");
        String yes = "1=1";
        String no = "1=2";
        String broken = "1/0=1";
        Object[][] tests = {
            {yes + " or " + broken, 1}, {broken + " or " + yes, 0}, {no + " or " + broken, 0}, {no + " and " + broken, 0},
            {"not (" + no + " and " + broken + ")", 1}, {"not (" + yes + " and " + broken + ")", 0},
            {yes + " or " + yes + " and " + no, 1}, {"(" + yes + " or " + yes + ") and " + no, 0},
            {no + " and " + broken + " or " + yes, 1}, {no + " or " + no + " or " + yes + " or " + broken, 1},
            {yes + " and " + yes + " and " + no + " and " + broken + " or " + yes, 1},
            {no + " and " + yes + " or " + yes + " and " + no + " or " + yes + " and " + yes, 1},
            {"not " + yes + " or " + yes, 1}, {"not " + no + " and " + no, 0}, {"not not not " + no, 1},
            {"not (" + no + " or not " + no + ")", 0}, {yes + " or " + no + " and " + broken, 1},
            {no + " or " + yes + " and " + broken, 0}, {"(" + no + " or " + yes + ") and (" + yes + " or " + broken + ")", 1}};
        for (Object[] test : tests) {
            NoRent x = new NoRent();
            Check.text(x, 0, "keep if " + test[0]);
            Check.due((String) test[0], x.holds(0, 0, NONE, NONE), (Integer) test[1]);
        }
    }

    /** What was read of one TEXT is not touched by the next that is read. */
    private static void keptAsTold() {
        Check.part("terms II, TEXTS stay");
        NoRent x = fields(10);
        Check.text(x, 0, "keep if 1=1;ban if 2=3");
        Check.text(x, 0, "ban if 1=2;keep if 3=3;grab");
        Check.text(x, 0, "nothing");
        Check.due("first", x.holds(0, 0, 0, 0), 1);
        Check.due("first", x.holds(0, 1, 0, 0), 0);
        Check.due("first", x.holds(0, 2, 0, 0), NONE);
        Check.due("second", x.holds(1, 0, 0, 0), 0);
        Check.due("second", x.holds(1, 1, 0, 0), 1);
    }
}
