/** Terms II, sentence by sentence: the TAPE, TOKENS, the grammar's limits, what is in force, asked, BROKEN, what HOLDS. */
public final class TermsTwoTest {
    private static final int NONE = NoRent.NONE;
    private static final String[] PLAINS = {"holds", "out", "banned", "grabs"};
    private static final String[] PARTS = {"worth", "rent", "arrear", "coin", "sacks", "fear", "kin", "week", "price", "estate", "house"};

    public static void main(String[] args) {
        twentyTexts();
        fourHundredBytes();
        tokens();
        theTapeEnds();
        twelveClauses();
        headsAndIf();
        eachProduction();
        numbersUpTo();
        fiftyNumbersAndWords();
        eightBrackets();
        faultAtTheEnd();
        longTextsOneAfterTheOther();
        inForceFromItsWeek();
        struck();
        ofNoneIsNothing();
        kin();
        plains();
        weekAndPrice();
        signs();
        beyondABillion();
        dividedByZero();
        cutTowardsZero();
        fromTheLeft();
        askedIfItCanMatter();
        aBrokenPart();
        aClauseHolds();
        fair();
        fairWithTests();
        fairIsAskedOfItsHolder();
        keepsForBoth();
        stepsInForce();
        Check.close();
    }

    private static void faults(String text, int fault) {
        Check.due("fault of \"" + text + "\"", Check.faultOf(text), fault);
    }

    private static void twentyTexts() {
        Check.part("II: TEXTS, 20 at most");
        NoRent x = new NoRent();
        for (int i = 0; i < 20; i++) {
            Check.due("not there yet", x.force(i, 0, 399), NONE);
            Check.due("number", Check.text(x, i, "keep"), i);
            Check.due("there", x.force(i, 0, 399), 1);
        }
        Check.due("full", Check.text(x, 0, "keep"), -5);
        Check.due("still 20", x.count(4), 20);
        Check.due("no 21st", x.force(20, 0, 399), NONE);
        Check.due("no 21st", x.holds(20, 0, NONE, NONE), NONE);
    }

    private static void fourHundredBytes() {
        Check.part("II: a TAPE of at most 400 bytes");
        NoRent x = new NoRent();
        for (int i = 0; i < 20; i++) {
            Check.due("room for twenty more", x.feed(0, 0, 0, 0, 0), 20 * i + 20);
        }
        Check.due("full", x.feed(0, 0, 0, 0, 0), NONE);
        x.end(381);
        Check.due("room for nineteen", x.feed(0, 0, 0, 0, 0), NONE);
        Check.due("as it was", x.count(9), 381);
        x.end(380);
        Check.due("room for twenty", x.feed(0, 0, 0, 0, 0), 400);
        faults("(".repeat(400), 0);
        faults("keep" + ";".repeat(396), 5);
        faults("keep" + " ".repeat(396), NONE);
        faults("keep" + " ".repeat(395) + "x", 399);
        faults("keep" + " ".repeat(395) + "i", 399);
        faults("keep" + " ".repeat(394) + "if", 400);
        faults("fair" + " ".repeat(393) + "kin", NONE);
        faults("fair" + " ".repeat(394) + "ki", 398);
        faults("fair" + " ".repeat(395) + "1", NONE);
    }

    private static void tokens() {
        Check.part("II: TOKENS: longest rows of letters a .. z, of digits, single other bytes, any blanks (32) between");
        faults("keep if1<2", NONE);
        faults("fair1", NONE);
        faults("strike0clause0", NONE);
        faults("step0 1", NONE);
        faults("  keep  ;  ban  ", NONE);
        faults("keep;ban", NONE);
        faults("keep if 1  <  2", NONE);
        faults("keepif 1<2", 0);
        faults("kee p", 0);
        faults("step01", 6);
        faults("step0 1 2", 8);
        faults("fair 1 0", 7);
        faults("fair 1kin", 6);
        faults("fair kin1", 8);
        faults("fair kinkin", 5);
        faults("fair 1;;ban", 7);
        faults("fair\t1", 4);
        faults("\nkeep", 0);
        faults("keep\u0000", 4);
        faults("keep\u00a0", 4);
        faults("keep\u00ff", 4);
        faults("kEep", 0);
        faults("KEEP", 0);
        faults("keep@", 4);
        faults("keep`", 4);
        faults("keep{", 4);
        faults("keep/", 4);
        faults("keep:", 4);
        faults("fair 1:", 6);
        faults("fair 1/", 7);
        faults("fair a", 5);
        faults("fair z", 5);
        faults("keepa", 0);
        faults("keepz", 0);
        // a part of a word is none
        String[] parts = {"eep", "p", "k", "kee", "an", "ba", "rab", "gra", "air", "trike", "strik", "tep", "raw"};
        for (String part : parts) {
            faults(part + " 1", 0);
        }
        String[] words = {"in", "ki", "orth", "oin", "acks", "ear", "ouse", "rrear", "state", "eek", "rice", "e", "s", "ent"};
        for (String word : words) {
            faults("fair " + word, 5);
        }
        String[] tests = {"olds", "hold", "ut", "ou", "anned", "rabs", "ot out", "no out"};
        for (String test : tests) {
            faults("keep if " + test, 8);
        }
        faults("keep f out", 5);
        faults("keep i out", 5);
        faults("keep if out r out", 12);
        faults("keep if out o out", 12);
        faults("keep if out nd out", 12);
        faults("keep if out an out", 12);
        faults("strike 0 lause 0", 9);
        faults("strike 0 claus 0", 9);
    }

    /** What the TAPE had behind its end is no part of its last TOKEN. */
    private static void theTapeEnds() {
        Check.part("II: TOKENS of the TAPE alone");
        NoRent x = Scenes.tenants(1, 0);
        Check.tape(x, "keep;fair 12");
        x.end(3);
        Check.due("kee", x.text(0), -6);
        Check.due("kee", x.fault(), 0);
        Check.tape(x, "keep;fair 12");
        x.end(11);
        Check.due("fair 1", x.text(0), 0);
        Check.due("fair 1", x.tells(0, 3), 1);
        Check.tape(x, "keep;fair 12");
        x.end(9);
        Check.due("fair", x.text(0), -6);
        Check.due("fair", x.fault(), 9);
    }

    private static void twelveClauses() {
        Check.part("II: CLAUSE, 12 at most (FAULT at the 13th's first TOKEN)");
        String eleven = "ban;".repeat(11);
        faults(eleven + "ban", NONE);
        faults(eleven + "ban;ban", 48);
        faults(eleven + "ban;  step 0 1", 50);
        faults(eleven + "ban;", 48);
        faults(eleven + "ban;  ", 50);
        faults(eleven + "ban;?", 48);
        faults(eleven + "ban;ban;ban", 48);
        faults(eleven + "bun;ban", 44);
        NoRent x = new NoRent();
        Check.text(x, 0, eleven + "ban");
        Check.due("the twelfth", x.force(0, 11, 0), 1);
        Check.due("a thirteenth", x.force(0, 12, 0), NONE);
        Check.due("below 0", x.force(0, -1, 0), NONE);
        Check.text(x, 0, "strike 0 clause 11");
        Check.due("the twelfth is struck", x.force(0, 11, 0), 0);
        Check.due("the eleventh is not", x.force(0, 10, 0), 1);
    }

    private static void headsAndIf() {
        Check.part("II: strike, step | HEAD [if TEST]");
        for (String head : new String[] {"fair 1", "draw 1", "keep", "ban", "grab"}) {
            faults(head, NONE);
            faults(head + " if out", NONE);
            faults(head + " if out;" + head, NONE);
            faults(head + " if", head.length() + 3);
            faults(head + " if out if out", head.length() + 8);
            faults(head + " if out out", head.length() + 8);
            faults(head + " out", head.length() + 1);
            faults(head + " " + head, head.length() + 1);
            faults(head + " if 1", head.length() + 5);
        }
        for (String head : new String[] {"strike 0 clause 0", "step 0 1"}) {
            faults(head, NONE);
            faults(head + ";" + head, NONE);
            faults(head + " if out", head.length() + 1);
            faults(head + " 1", head.length() + 1);
        }
        for (String word : new String[] {"if", "clause", "or", "and", "not", "holds", "kin", "1", "(", "[", ";", "+", "<"}) {
            faults(word, 0);
            faults("ban;" + word, 4);
        }
        faults("fair", 4);
        faults("fair if out", 5);
        faults("draw ;", 5);
        faults("keep 1", 5);
    }

    private static void eachProduction() {
        Check.part("II: TEST, BOTH, PLAIN, SUM, TERM, PART");
        String[] tests = {"holds or out and banned or grabs", "not holds", "not not not out", "(out)", "((out))", "(out or out) and out",
            "not (out)", "not 1<2", "[1]<[2]", "1<2 and 2>1 or 1=1", "[1+2]*3<4", "1+2-3*4/5>[6]"};
        for (String test : tests) {
            faults("keep if " + test, NONE);
        }
        String[] bad = {"or", "and out", "out or", "out and", "out or or out", "out and and out", "out not out", "not", "not or", "()",
            "(out", "out)", "(out]", "[out]", "1", "1<", "<1", "1<<2", "1<2<3", "1<2=3", "(1)<2", "(1<2)<3", "1<(2)", "1<out", "out<1",
            "[1<2]", "[1", "1]<2", "1+<2", "1+-2<3", "-1<2", "1*/2<3", "1 2<3", "1<2 3", "[]<1", "1<[2)", "1!2", "not", "out+1<2"};
        int[] places = {0, 0, 6, 7, 7, 8, 4, 3, 4, 1,
            4, 3, 4, 1, 1, 2, 0, 2, 3, 3, 2, 5, 2, 2, 3,
            2, 2, 1, 2, 2, 0, 2, 2, 4, 1, 4, 1, 3, 3};
        for (int i = 0; i < bad.length; i++) {
            faults("keep if " + bad[i], 8 + places[i]);
        }
        faults("strike 1", 8);
        faults("strike 1 clause", 15);
        faults("strike 1 ban 1", 9);
        faults("strike ban", 7);
        faults("strike 1 clause kin", 16);
        faults("step", 4);
        faults("step 1", 6);
        faults("step 1 kin", 7);
        faults("step kin", 5);
        faults("step 1;ban", 6);
    }

    private static void numbersUpTo() {
        Check.part("II: NUMBERS to 100,000; of strike to 19, of its clause to 11; of step 0 .. 3, then 1 .. 52");
        // 2 to the 32nd and 64th, and one more: as small as 0 and 1, if they wrapped around
        String[] far = {"4294967296", "4294967297", "18446744073709551616", "18446744073709551617", "2147483648", "9".repeat(80)};
        for (String number : far) {
            faults("fair " + number, 5);
            faults("keep if 1<" + number, 10);
            faults("strike " + number + " clause 0", 7);
            faults("strike 0 clause " + number, 16);
            faults("step " + number + " 1", 5);
            faults("step 0 " + number, 7);
        }
        faults("fair 100000", NONE);
        faults("fair 100001", 5);
        faults("fair 0", NONE);
        faults("fair 000000000000100000", NONE);
        faults("fair 000000000000100001", 5);
        faults("strike 19 clause 11", NONE);
        faults("strike 20 clause 11", 7);
        faults("strike 19 clause 12", 17);
        faults("strike 0 clause 0", NONE);
        faults("step 0 1", NONE);
        faults("step 3 52", NONE);
        faults("step 4 52", 5);
        faults("step 3 53", 7);
        faults("step 3 0", 7);
    }

    private static void fiftyNumbersAndWords() {
        Check.part("II: 50 NUMBERS and words that are PARTS or PLAINS by themselves (FAULT at the 51st)");
        String fortyNine = "fair 1" + "+1".repeat(48);
        int length = fortyNine.length();
        for (String part : PARTS) {
            faults(fortyNine + "+" + part, NONE);
            faults(fortyNine + "+1+" + part, length + 3);
            faults(fortyNine + "+" + part + "+" + part, length + 2 + part.length());
        }
        for (String plain : PLAINS) {
            faults(fortyNine + " if " + plain, NONE);
            faults(fortyNine + "+1 if " + plain, length + 6);
            faults(fortyNine + " if " + plain + " or " + plain, length + 8 + plain.length());
        }
        faults(fortyNine + "+1;ban", NONE);
        faults(fortyNine + "+1;draw 1", length + 8);
        faults(fortyNine + " if 1<2", length + 6);
        faults(fortyNine + "+[[1]]", NONE);
        faults(fortyNine + "+1+[[1]]", length + 5);
        faults("ban if not out" + " or out".repeat(49), NONE);
        // NUMBERS of "strike" and "step" are no PARTS
        faults("strike 0 clause 0;step 0 1;" + fortyNine + "+1;strike 0 clause 0;step 0 1", NONE);
        NoRent x = new NoRent();
        Check.text(x, 0, "draw 1" + "+1".repeat(49) + ";keep");
        Check.text(x, 0, "ban if 1" + "+1".repeat(47) + "=48 or out");
        Check.due("all fifty are asked", x.holds(1, 0, NONE, NONE), 1);
    }

    private static void eightBrackets() {
        Check.part("II: 8 brackets of both kinds within one another (FAULT at the 9th)");
        for (int round = 0; round <= 8; round++) {
            String open = "(".repeat(round) + "[".repeat(8 - round);
            String close = "]".repeat(8 - round) + (round < 8 ? "=1" : "") + ")".repeat(round);
            faults("ban if " + open + (round < 8 ? "1" : "out") + close, NONE);
        }
        for (int round = 0; round <= 9; round++) {
            faults("ban if " + "(".repeat(round) + "[".repeat(9 - round) + "1", 15);
        }
        faults("fair " + "[".repeat(9), 13);
        faults("fair " + "[".repeat(8) + "1" + "]".repeat(8) + "+[1]", NONE);
        faults("ban if " + "(out) or ".repeat(20) + "(out)", NONE);
        faults("ban if " + "(".repeat(7) + "[1]<[2]" + ")".repeat(7), NONE);
        faults("ban if " + "(".repeat(7) + "[1]<[[2]]" + ")".repeat(7), 19);
    }

    private static void faultAtTheEnd() {
        Check.part("II: FAULT: the first TOKEN that can't go on there (the end's: the TEXT's length)");
        faults("", 0);
        faults(" ", 1);
        faults(" ".repeat(400), 400);
        faults("keep if", 7);
        faults("keep if   ", 10);
        faults("fair 1+  ", 9);
        faults("keep;", 5);
        faults("keep ;  ", 8);
        faults("strike  ", 8);
        faults("keep if (out   ", 15);
        faults("fair [1 ", 8);
        faults("x y z", 0);
        faults("keep x y", 5);
    }

    /** What one TEXT left behind is not in the way of the next. */
    private static void longTextsOneAfterTheOther() {
        Check.part("II: TEXTS, 20 at most, each on a TAPE of at most 400 bytes");
        NoRent x = new NoRent();
        String sum = "1" + "+1".repeat(22);
        for (int i = 0; i < 20; i++) {
            Check.due("text", Check.text(x, 0, "keep if " + sum + "=23;ban if " + sum + "=" + (i % 2 == 0 ? 24 : 23)), i);
        }
        for (int i = 0; i < 20; i++) {
            Check.due("keep of TEXT " + i, x.holds(i, 0, NONE, NONE), 1);
            Check.due("ban of TEXT " + i, x.holds(i, 1, NONE, NONE), i % 2);
        }
        // a number or word of a longer TEXT ahead is in no clause of a shorter one
        NoRent y = Scenes.tenants(1, 0);
        Check.text(y, 0, "fair 90-1-1-1-1;strike 5 clause 3;step 1 9");
        Check.text(y, 0, "fair 70;keep;ban");
        Check.due("FAIR of the latest", y.tells(0, 3), 70);
        Check.due("clause 1", y.holds(1, 1, 0, 0), 1);
        Check.due("clause 2", y.holds(1, 2, 0, 0), 1);
    }

    private static void inForceFromItsWeek() {
        Check.part("II: IN FORCE in a WEEK w: of TEXTS from w or ahead of it on");
        NoRent x = new NoRent();
        Check.text(x, 7, "keep");
        Check.text(x, 0, "keep");
        Check.text(x, 399, "keep");
        int[][] due = {{0, 0, 1, 0}, {6, 0, 1, 0}, {7, 1, 1, 0}, {8, 1, 1, 0}, {398, 1, 1, 0}, {399, 1, 1, 1}};
        for (int[] d : due) {
            for (int t = 0; t < 3; t++) {
                Check.due("TEXT " + t + " in WEEK " + d[0], x.force(t, 0, d[0]), d[t + 1]);
            }
        }
        x.go(6);
        Check.due("a WEEK ahead", x.holds(0, 0, NONE, NONE), 0);
        x.go(1);
        Check.due("in its WEEK", x.holds(0, 0, NONE, NONE), 1);
    }

    private static void struck() {
        Check.part("II: all CLAUSES that no \"strike\" in force of a TEXT told later strikes");
        NoRent x = new NoRent();
        Check.text(x, 0, "keep;ban;grab;strike 0 clause 0;strike 1 clause 0");
        Check.text(x, 0, "keep;strike 1 clause 0;strike 2 clause 0;strike 19 clause 0");
        Check.text(x, 0, "keep");
        for (int t = 0; t < 3; t++) {
            Check.due("of TEXT " + t + ": none is told later", x.force(t, 0, 0), 1);
        }
        Check.text(x, 3, "strike 0 clause 0;strike 0 clause 2;strike 1 clause 0;strike 0 clause 5");
        int[] before = {1, 1, 1, 1, 1};
        int[] behind = {0, 1, 0, 1, 1};
        for (int c = 0; c < 5; c++) {
            Check.due("clause " + c + " ahead of it", x.force(0, c, 2), before[c]);
            Check.due("clause " + c + " from it on", x.force(0, c, 3), behind[c]);
        }
        Check.due("of the second TEXT", x.force(1, 0, 3), 0);
        Check.due("of the third", x.force(2, 0, 3), 1);
        // two TEXTS strike one, each another CLAUSE
        Check.text(x, 3, "strike 0 clause 1");
        int[] both = {0, 0, 0, 1, 1};
        for (int c = 0; c < 5; c++) {
            Check.due("clause " + c + " by both", x.force(0, c, 3), both[c]);
        }
        // a strike that is struck strikes no more, and so on
        NoRent y = new NoRent();
        Check.text(y, 0, "keep");
        for (int t = 1; t < 20; t++) {
            Check.text(y, t, "strike " + (t - 1) + " clause 0");
            for (int u = 0; u <= t; u++) {
                Check.due(u + " under " + t, y.force(u, 0, 399), (t - u) % 2 == 0 ? 1 : 0);
            }
        }
        Check.due("as of WEEK 1", y.force(0, 0, 1), 0);
        Check.due("as of WEEK 2", y.force(0, 0, 2), 1);
    }

    private static void ofNoneIsNothing() {
        Check.part("II: each may be none: then what is of it is 0, or not so");
        NoRent x = Scenes.putOut(1, "grab;ban;draw 7");
        x.person(0, 9, 30);
        x.person(0, 9, 30);
        x.estate(0, 0);
        x.field(1, 5, 6, 1);
        x.give(100);
        Check.row(x, 19, 1, 400);
        x.go(1);
        x.take(2, 0, 0);
        // of PERSON 2 (HOUSE 0, kin 1) and of FIELD 1 there is something of everything, but for these
        String[] ofPerson = {"coin", "fear", "kin"};
        String[] ofField = {"worth", "rent", "estate"};
        for (String word : ofPerson) {
            Check.due(word, Scenes.asks(x, word + ">0", 2, NONE), 1);
            Check.due(word + " of none", Scenes.asks(x, word + "=0", NONE, 1), 1);
        }
        for (String word : ofField) {
            Check.due(word, Scenes.asks(x, word + ">0", NONE, 1), 1);
            Check.due(word + " of none", Scenes.asks(x, word + "=0", 2, NONE), 1);
        }
        Check.due("sacks", Scenes.asks(x, "sacks=20", 1, NONE), 1);
        Check.due("sacks of none", Scenes.asks(x, "sacks=0", NONE, NONE), 1);
        Check.due("arrear", Scenes.asks(x, "arrear=100", NONE, 0), 1);
        Check.due("arrear of none", Scenes.asks(x, "arrear=0", 0, NONE), 1);
        int[] who = {2, 0, 0, 2};
        for (int i = 0; i < 4; i++) {
            Check.due(PLAINS[i], Scenes.asks(x, PLAINS[i], who[i], NONE), 1);
            Check.due(PLAINS[i] + " of none", Scenes.asks(x, PLAINS[i], NONE, 0), 0);
            Check.due("not " + PLAINS[i] + " of none", Scenes.asks(x, "not " + PLAINS[i], NONE, NONE), 1);
        }
        NoRent y = new NoRent();
        y.person(7, 0, 0);
        Check.due("house", Scenes.asks(y, "house=7", 0, NONE), 1);
        Check.due("house of none", Scenes.asks(y, "house=0", NONE, NONE), 1);
    }

    private static void kin() {
        Check.part("II: kin: how many others are of its HOUSE and in it");
        NoRent x = new NoRent();
        for (int i = 0; i < 4; i++) {
            x.person(i < 3 ? 0 : 1, 0, 0);
        }
        int[] kin = {2, 2, 2, 0};
        for (int p = 0; p < 4; p++) {
            Check.due("kin of " + p, x.of(p, 5), kin[p]);
            Check.due("as a word", Scenes.asks(x, "kin=" + kin[p], p, NONE), 1);
        }
        for (int state = 1; state < 5; state++) {
            x.goes(1, state);
            Check.due("one is in state " + state, x.of(0, 5), 1);
            Check.due("who is not in it has kin", x.of(1, 5), 2);
        }
    }

    private static void plains() {
        Check.part("II: holds, out, banned, grabs");
        NoRent x = Scenes.putOut(2, "grab if house=5;ban if house=6");
        x.person(5, 0, 0);
        x.person(6, 0, 0);
        x.field(0, 1, 0, NONE);
        Check.due("banned, but not from NOW on", Scenes.asks(x, "banned", 3, NONE), 0);
        x.go(1);
        Check.due("banned from the end of the WEEK on", Scenes.asks(x, "banned", 3, NONE), 1);
        Check.due("another is not", Scenes.asks(x, "banned", 2, NONE), 0);
        Check.due("out", Scenes.asks(x, "out and not holds", 1, NONE), 1);
        Check.due("who never held is not out", Scenes.asks(x, "out or holds", 2, NONE), 0);
        x.take(2, 2, 1);
        Check.due("LET: holds, but does not grab", Scenes.asks(x, "holds and not grabs", 2, NONE), 1);
        x.take(2, 0, 0);
        Check.due("GRABBED", Scenes.asks(x, "grabs", 2, 1), 1);
        Check.due("not the one who was put OUT", Scenes.asks(x, "grabs", 0, 0), 0);
        x.goes(1, 0);
        Check.due("in its HOUSE again, still out", Scenes.asks(x, "out", 1, NONE), 1);
        x.field(0, 1, 0, 1);
        Check.due("it holds something since", Scenes.asks(x, "out", 1, NONE), 0);
    }

    private static void weekAndPrice() {
        Check.part("II: week: NOW; price: of NOW");
        NoRent x = new NoRent();
        x.price(1, 40);
        Check.due("WEEK 0", Scenes.asks(x, "week=0 and price=100", NONE, NONE), 1);
        x.go(1);
        Check.due("WEEK 1", Scenes.asks(x, "week=1 and price=40", NONE, NONE), 1);
        x.go(104);
        Check.due("WEEK 105", Scenes.asks(x, "week=105 and price=40", NONE, NONE), 1);
    }

    private static void signs() {
        Check.part("II: SUM (\"<\" | \">\" | \"=\") SUM");
        String signs = "<>=";
        int[][] so = {{1, 0, 0}, {0, 0, 1}, {0, 1, 0}};
        for (int sign = 0; sign < 3; sign++) {
            for (int a = 0; a < 3; a++) {
                NoRent x = new NoRent();
                String test = a + "" + signs.charAt(sign) + "1";
                Check.due(test, Scenes.asks(x, test, NONE, NONE), so[a][sign]);
                String below = "0-" + a + signs.charAt(sign) + "0-1";
                Check.due(below, Scenes.asks(x, below, NONE, NONE), so[2 - a][sign]);
            }
        }
    }

    /** TESTS that are so, and TESTS that are BROKEN. */
    private static void tests(String[] so, String[] broken) {
        for (String test : so) {
            Check.due(test, Scenes.asks(new NoRent(), test, NONE, NONE), 1);
        }
        for (String test : broken) {
            Check.due(test, Scenes.asks(new NoRent(), test, NONE, NONE), 0);
            Check.due("not (" + test + ")", Scenes.asks(new NoRent(), "not (" + test + ")", NONE, NONE), 0);
        }
    }

    private static void beyondABillion() {
        Check.part("II: beyond 1,000,000,000 either way it is BROKEN");
        tests(new String[] {"100000*10000>0", "10000*100000+0>0", "100000*10000-1>0", "0-100000*10000<0", "[0-10000]*100000<0",
            "99999*10000+10000=100000*10000", "0-100000*9999-100000<0"},
            new String[] {"100000*10000+1>0", "1+100000*10000>0", "0-100000*10000-1<0", "0-1-100000*10000<0", "100000*10001>0",
                "[0-100000]*10001<0", "100000*10001-100000>0", "100000*10000+1-1>0",
                // these would be small, if they wrapped around
                "65536*65536=0", "65536*65536+7=7", "65537*65536<100000", "46341*46341<0", "100000*42950<100000",
                "100000*100000*100000*100000>0", "65536*65536*65536*65536=0", "[0-65536]*65536=0"});
        NoRent x = Scenes.tenants(1, 0);
        Check.text(x, 0, "fair 80;fair 65536*65536;fair 100000*10000+1-100000*10000");
        Check.due("FAIR: the last that is not BROKEN", x.tells(0, 3), 80);
        Check.text(x, 0, "fair 100000*10000-100000*10000+7");
        Check.due("FAIR: just not BROKEN", x.tells(0, 3), 7);
    }

    private static void dividedByZero() {
        Check.part("II: divided by 0 it is BROKEN");
        tests(new String[] {"0/1=0", "0/5+1=1", "5/[1-2]=0-5"},
            new String[] {"1/0=0", "0/0=0", "1/0>0", "0/0<1", "1/[2-2]=0", "1/[1/2]=0", "1+1/0=1", "0*[1/0]=0", "1/worth=0", "1/kin=0"});
    }

    private static void cutTowardsZero() {
        Check.part("II: / is cut towards 0");
        tests(new String[] {"7/2=3", "[0-7]/2=0-3", "7/[0-2]=0-3", "[0-7]/[0-2]=3", "1/2=0", "[0-1]/2=0", "1/[0-2]=0", "6/2=3", "6/[0-3]=0-2",
            "100000*10000/[0-1]=0-100000*10000", "1/100000=0", "99999/100000=0"}, new String[] {});
    }

    private static void fromTheLeft() {
        Check.part("II: SUM: TERM {+ | - TERM}, TERM: PART {* | / PART}");
        tests(new String[] {"10-3-2=5", "10-[3-2]=9", "100/10/5=2", "100/[10/5]=50", "7/2*2=6", "7*2/2=7", "2*7/2=7", "1+2*3=7", "[1+2]*3=9",
            "10-2*3+1=5", "2*3-4*5+6/2=0-11", "1-2+3-4+5=3", "8/4*2-1*3/2=3", "[[[7]]]=7", "2*[3+4]*5=70", "1+[2-[3-4]]=4"}, new String[] {});
    }

    private static void askedIfItCanMatter() {
        Check.part("II: \"or\", \"and\" ask what stands behind only if it can still matter");
        String so = "1=1";
        String no = "1=2";
        String broken = "1/0=1";
        tests(new String[] {so + " or " + broken, so + " or " + no + " or " + broken, so + " or " + no + " or " + no,
            so + " or " + broken + " and " + broken, so + " or " + broken + " or " + broken, no + " and " + broken + " or " + so,
            no + " and " + broken + " and " + broken + " or " + so, no + " or " + so + " or " + broken, no + " or " + no + " or " + so,
            "not (" + no + " and " + broken + ")", "(" + so + " or " + broken + ") and " + so, so + " or (" + broken + ")",
            "not " + so + " or " + so, "not " + no + " and " + so, so + " and " + so + " or " + broken, "not (" + no + " or " + no + ")"},
            new String[] {broken + " or " + so, broken + " and " + no, no + " or " + broken, so + " and " + broken,
                so + " and " + broken + " or " + so, no + " and " + so + " or " + broken, no + " or " + broken + " or " + so,
                "not (" + so + " and " + broken + ") or " + so, "(" + broken + " or " + so + ") or " + so});
        String[] notSo = {no + " and " + broken, no + " and " + so + " and " + broken, no + " and " + so + " or " + no + " and " + broken,
            no + " or " + no + " and " + broken, "not (" + so + " or " + broken + ")", "not " + so + " and " + broken,
            so + " and " + no + " or " + no, "(" + so + " or " + so + ") and " + no, no + " or " + no + " or " + no};
        for (String test : notSo) {
            Check.due(test, Scenes.asks(new NoRent(), test, NONE, NONE), 0);
            Check.due("not (" + test + ")", Scenes.asks(new NoRent(), "not (" + test + ")", NONE, NONE), 1);
        }
    }

    private static void aBrokenPart() {
        Check.part("II: a part that was asked and is BROKEN makes all of it BROKEN");
        tests(new String[] {}, new String[] {"not 1/0=1", "not not 1/0=1", "(1/0=1)", "1/0=1 or 1/0=1", "1=[1+1/0]", "1/0<1/0", "1<2 and not 1/0=1"});
    }

    private static void aClauseHolds() {
        Check.part("II: a CLAUSE HOLDS, if it is in force NOW, its \"if\" is so, and neither that nor its SUM is BROKEN");
        NoRent x = Scenes.tenants(1, 7);
        Check.text(x, 0, "fair 1;fair 1 if coin=7;fair 1 if coin=8;fair 1/0;fair 1/0 if coin=7;fair 1 if 1/0=0;keep;strike 9 clause 9;step 0 1");
        int[] holds = {1, 1, 0, 0, 0, 0, 1, 0, 0};
        for (int c = 0; c < holds.length; c++) {
            Check.due("clause " + c, x.holds(0, c, 0, 0), holds[c]);
        }
        Check.text(x, 1, "strike 0 clause 0");
        Check.due("still in force NOW", x.holds(0, 0, 0, 0), 1);
        x.go(1);
        Check.due("struck NOW", x.holds(0, 0, 0, 0), 0);
        Check.due("the strike itself", x.holds(1, 0, 0, 0), 0);
    }

    private static void fair() {
        Check.part("II: FAIR: the \"fair\" that HOLDS and was told last, at least 0, at most its RENT; its RENT without");
        NoRent x = Scenes.tenants(1, 0);
        Check.due("its RENT without", x.tells(0, 3), 100);
        String[] texts = {"fair 20", "fair 100", "fair 101", "fair 0", "fair 0-1", "fair 99", "fair 50;fair 60", "fair 10 if coin>0",
            "ban;fair 30;keep", "fair 100000*10000", "fair [0-100000]*10000", "fair 1/0", "fair rent-worth+1"};
        int[] fair = {20, 100, 100, 0, 0, 99, 60, 60, 30, 100, 0, 0, 1};
        for (int i = 0; i < texts.length; i++) {
            Check.text(x, 0, texts[i]);
            Check.due("of " + texts[i], x.tells(0, 3), fair[i]);
        }
        Check.text(x, 1, "fair 77");
        Check.due("not from NOW on", x.tells(0, 3), 1);
        x.go(1);
        Check.due("from its WEEK on", x.tells(0, 3), 77);
        Check.text(x, 1, "strike 13 clause 0");
        Check.due("struck", x.tells(0, 3), 1);
        NoRent y = Scenes.tenants(1, 0);
        Check.text(y, 1, "fair 5");
        Check.due("none in force: RENT", y.tells(0, 3), 100);
        // of RENT 0, and of RENT as it was ALTERED
        y.field(0, 1, 0, 0);
        Check.text(y, 0, "fair 64");
        Check.due("at most a RENT of 0", y.tells(1, 3), 0);
        Check.due("altered to 36", y.alter(0, 64), 36);
        Check.due("at most what it is then", y.tells(0, 3), 36);
    }

    /** The amount is its SUM's alone, whatever stands in its TEST. */
    private static void fairWithTests() {
        Check.part("II: HEAD [\"if\" TEST]");
        String[] tests = {"1=1 and 2=2", "1=2 or 2=2", "1=2 or 1=1 and 2=2", "1=1 and 2=2 or 1=2", "1=1 and 1=1 and 1=1 or 1=1",
            "(1=2 or 1=1) and (2=1 or 2=2) or 1=2", "not 1=2 and not 2=1 or 1=2", "1=2 and 1=1 or 1=1 and 2=2 or 3=4"};
        for (String test : tests) {
            NoRent x = Scenes.tenants(1, 0);
            Check.text(x, 0, "fair 37 if " + test);
            Check.due("FAIR if " + test, x.tells(0, 3), 37);
            Check.text(x, 0, "fair 2*10+8 if " + test);
            Check.due("FAIR if " + test, x.tells(0, 3), 28);
        }
    }

    private static void fairIsAskedOfItsHolder() {
        Check.part("II: for its HOLDER and it");
        NoRent x = Scenes.tenants(2, 0);
        x.coin(1, 40);
        x.field(0, 3, 90, NONE);
        Check.text(x, 0, "fair coin+worth/50");
        Check.due("of PERSON 0", x.tells(0, 3), 2);
        Check.due("of PERSON 1", x.tells(1, 3), 42);
        Check.due("NONE without HOLDER", x.tells(2, 3), NONE);
    }

    private static void keepsForBoth() {
        Check.part("II: a HOLDER KEEPS for a FIELD, if a \"keep\" HOLDS for both");
        NoRent x = Scenes.tenants(2, 0);
        x.coin(1, 40);
        x.field(0, 3, 90, 1);
        x.field(0, 3, 90, NONE);
        int[] none = {0, 0, 0, 0};
        int[] one = {0, 0, 1, 0};
        keepsAre(x, none);
        Check.text(x, 0, "keep if coin>0 and worth<100;keep if 1/0=1");
        keepsAre(x, one);
        Check.text(x, 1, "keep;strike 0 clause 0");
        keepsAre(x, one);
        x.go(1);
        int[] all = {1, 1, 1, 0};
        keepsAre(x, all);
    }

    private static void keepsAre(NoRent x, int[] keeps) {
        for (int f = 0; f < keeps.length; f++) {
            Check.due("FIELD " + f, x.tells(f, 4), keeps[f]);
        }
    }

    private static void stepsInForce() {
        Check.part("II: STEP s takes as many WEEKS as the \"step\" of it in force that was told last tells (4 without)");
        int[] weeks = {4, 9, 2, 2, 2, 52, 4};
        String[] texts = {"step 1 7;step 2 7;step 3 7", "step 0 9", "step 0 3;step 0 2", "step 1 1", "strike 1 clause 0", "step 0 52",
            "strike 1 clause 0;strike 2 clause 0;strike 2 clause 1;strike 5 clause 0"};
        NoRent x = Scenes.tenants(1, 0);
        x.go(14);
        for (int i = 0; i < texts.length; i++) {
            Check.text(x, 0, texts[i]);
            x.writ(0);
            Check.due("with " + texts[i], x.tells(0, 6), weeks[i]);
            x.avoid(0);
        }
        Check.text(x, 15, "step 0 5");
        x.writ(0);
        Check.due("not from NOW on", x.tells(0, 6), 4);
        x.avoid(0);
        x.go(1);
        x.writ(0);
        Check.due("from its WEEK on", x.tells(0, 6), 5);
    }
}
