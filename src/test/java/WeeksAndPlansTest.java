/** Promises 26 and 31 to 48: weeks that go by, funds, offers, choices, acts tried, seals, images. */
public final class WeeksAndPlansTest {
    private static final int NONE = NoRent.NONE;
    private static final long NOTHING = -2_000_000_000_000L;

    public static void main(String[] args) {
        go();
        rents();
        draws();
        bans();
        steps();
        last();
        least();
        leastOfMany();
        offersAndAgree();
        wishClearCrops();
        chooseAndJudge();
        chooseOrder();
        chooseByGuards();
        roomOnPaper();
        paperAlone();
        beside();
        sealAlterFound();
        imageAndBack();
        imagesApart();
        planOutlivesBack();
        count();
        status();
        Check.close();
    }

    private static void go() {
        Check.part("promise 26");
        NoRent x = new NoRent();
        Check.due("bad", x.go(0), -1);
        Check.due("bad", x.go(105), -1);
        Check.due("bad", x.go(Check.MIN), -1);
        Check.due("bad", x.go(Check.MAX), -1);
        Check.due("104", x.go(104), 104);
        Check.due("208", x.go(104), 208);
        Check.due("312", x.go(104), 312);
        Check.due("above 399", x.go(88), -1);
        Check.due("399", x.go(87), 399);
        Check.due("above 399", x.go(1), -1);
        Check.due("count", x.count(0), 399);
        Check.due("the last WEEK's ROW has no end", Check.row(x, 399, 0, 1), -2);
    }

    private static void rents() {
        Check.part("terms III (2)");
        NoRent x = new NoRent();
        x.estate(0, 0);
        x.person(0, 150, 0);
        x.field(0, 100, 100, 0);
        x.field(0, 100, 100, 0);
        x.go(13);
        Check.due("nothing in WEEK 0", x.of(0, 1), 150);
        x.go(1);
        Check.due("FIELD by FIELD", x.tells(0, 2), 0);
        Check.due("all that it has", x.tells(1, 2), 50);
        Check.due("all that it has", x.of(0, 1), 0);
        Check.due("chest", x.owner(0, 0), 150);
        // SACKS: 30 a piece; 100, then 150 are asked
        x.price(20, 30);
        Check.row(x, 20, 0, 5, 5);
        x.go(13);
        Check.due("4 SACKS, then 5 for 130 more", x.of(0, 2), 1);
        Check.due("20 left", x.of(0, 1), 20);
        Check.due("paid", x.tells(1, 2), 0);
        Check.due("chest", x.owner(0, 0), 400);
        x.price(27, 0);
        x.go(13);
        Check.due("PRICE 0: none is sold", x.of(0, 2), 1);
        Check.due("ARREAR", x.tells(0, 2), 80);
        Check.due("ARREAR", x.tells(1, 2), 100);
        Check.text(x, 0, "fair 60;keep if arrear < 90");
        x.price(52, 25);
        x.coin(0, 40);
        x.go(13);
        Check.due("FAIR is paid by who KEEPS", x.tells(0, 2), 120);
        Check.due("who doesn't pays all that it has", x.tells(1, 2), 195);
        Check.due("SACKS", x.of(0, 2), 0);
        Check.due("chest", x.owner(0, 0), 400 + 20 + 60 + 5);
        x.goes(0, 3);
        x.coin(0, 1000);
        x.go(13);
        Check.due("over the SEA: nothing is asked", x.tells(0, 2), 120);
        Check.row(x, 70, 0, 1, 1);
        x.go(4);
        Check.due("no crops yet", x.of(0, 2), 0);
        x.go(1);
        Check.due("but has the crops", x.of(0, 2), 2);
    }

    private static void draws() {
        Check.part("terms III (4)");
        NoRent x = Scenes.tenants(3, 0);
        Check.text(x, 0, "step 0 1;step 1 1;step 2 1;step 3 1;draw 5;draw 2 - 3 if house = 1;draw 0 - 99 if house = 2;draw 1/0");
        x.go(14);
        x.writ(0);
        x.writ(1);
        x.writ(2);
        x.give(13);
        x.go(4);
        Check.due("nobody is out", x.fund(), 13);
        x.go(1);
        Check.due("5, and 4", x.fund(), 4);
        Check.due("5", x.of(0, 1), 5);
        Check.due("4", x.of(1, 1), 4);
        Check.due("at least 0", x.of(2, 1), 0);
        x.go(1);
        Check.due("as much is not there for the first", x.of(0, 1), 5);
        Check.due("but for the second", x.of(1, 1), 8);
        Check.due("none left", x.fund(), 0);
        x.give(100);
        x.goes(0, 0);
        x.goes(1, 2);
        x.go(1);
        Check.due("not on the ROAD", x.fund(), 100);
        x.goes(1, 1);
        x.go(1);
        Check.due("on the ROAD", x.fund(), 96);
        NoRent y = Scenes.tenants(1, 0);
        Check.text(y, 0, "step 0 1;step 1 1;step 2 1;step 3 1;draw 100000*100");
        y.go(14);
        y.writ(0);
        y.give(10_000_000);
        y.coin(0, 3);
        y.give(10_000_000);
        y.go(6);
        Check.due("what would come beyond is lost", y.of(0, 1), 10_000_000);
        Check.due("but drawn", y.fund(), 0);
    }

    private static void bans() {
        Check.part("terms III (5)");
        NoRent x = new NoRent();
        for (int i = 0; i < 4; i++) {
            x.person(i, 10 * i, 0);
        }
        Check.text(x, 0, "ban if coin > 15 and not banned;ban if banned and week = 1;ban if worth > 0;ban if house = 0");
        x.goes(3, 4);
        Check.due("not yet", x.of(2, 3), 0);
        x.go(1);
        int[] first = {1, 0, 1, 1};
        for (int p = 0; p < 4; p++) {
            Check.due("first WEEK, " + p, x.of(p, 3), first[p]);
        }
        x.go(1);
        Check.due("WEEK 1", x.of(2, 3), 1);
        x.go(1);
        Check.due("no more", x.of(2, 3), 0);
        Check.due("always", x.of(0, 3), 1);
        x.go(1);
        Check.due("again", x.of(2, 3), 1);
        // by how things are behind (4)
        NoRent y = Scenes.tenants(1, 0);
        Check.text(y, 0, "step 0 1;step 1 1;step 2 1;step 3 1;draw 5;ban if coin = 5 and out and not holds");
        y.go(14);
        y.writ(0);
        y.give(5);
        y.go(4);
        Check.due("not out", y.of(0, 3), 0);
        y.go(1);
        Check.due("out with 5", y.of(0, 3), 1);
    }

    private static void steps() {
        Check.part("terms III (3), STEPS");
        NoRent x = Scenes.tenants(1, 0);
        Check.text(x, 0, "step 1 2;step 1 3;step 0 2");
        Check.text(x, 16, "step 0 9;step 2 7;step 3 1");
        Check.text(x, 19, "strike 1 clause 1");
        x.go(14);
        x.writ(0);
        Check.due("STEP 0", x.tells(0, 6), 2);
        x.go(3);
        Check.due("STEP 1 begins in 16", x.tells(0, 5), 1);
        Check.due("the last told", x.tells(0, 6), 3);
        x.go(3);
        Check.due("STEP 2 begins in 19", x.tells(0, 5), 2);
        Check.due("as in force then", x.tells(0, 6), 4);
        x.go(4);
        Check.due("STEP 3 begins in 23", x.tells(0, 5), 3);
        Check.due("one WEEK", x.tells(0, 6), 1);
        Check.due("not yet", x.tells(0, 0), 0);
        x.go(1);
        Check.due("put OUT in 24", x.tells(0, 0), NONE);
        Check.due("since", x.of(0, 4), 24);
        Check.due("ended", x.tells(0, 5), NONE);
    }

    private static void last() {
        Check.part("promise 31");
        NoRent x = new NoRent();
        Check.due("nothing", x.last(1, 1, 0), 0);
        Check.due("nobody", x.last(10_000, 0, 0), 400);
        Check.due("nobody at first", x.last(1, 0, 1), 1);
        x.give(100);
        Check.due("10 each", x.last(10, 1, 0), 10);
        Check.due("11 each", x.last(11, 1, 0), 9);
        Check.due("1 + 2 + .. + 13 = 91", x.last(1, 1, 1), 13);
        for (int i = 0; i < 10; i++) {
            x.give(10_000_000);
        }
        Check.due("most", x.last(1, 1000, 0), 400);
        Check.due("most", x.last(10_000, 1000, 1000), 4);
        Check.due("bad", x.last(0, 1, 1), NONE);
        Check.due("bad", x.last(10_001, 1, 1), NONE);
        Check.due("bad", x.last(1, -1, 1), NONE);
        Check.due("bad", x.last(1, 1001, 1), NONE);
        Check.due("bad", x.last(1, 1, -1), NONE);
        Check.due("bad", x.last(1, 1, 1001), NONE);
    }

    private static void least() {
        Check.part("promise 32");
        NoRent x = new NoRent();
        x.estate(100, 300);
        x.person(0, 0, 0);
        x.field(0, 50, 100, 0);
        x.field(0, 50, 120, 0);
        x.field(0, 50, 90, 0);
        x.field(0, 50, 500, NONE);
        Check.text(x, 0, "fair rent - 40 if rent = 100;fair rent - 10 if rent = 120;fair rent - 30 if rent = 90");
        // 310 a QUARTER; 40, 30, 10 less
        Check.due("100 + 230 < 300 not", x.least(0, 1), NONE);
        Check.due("30, then -70 with all; 60, then 20 -> 230 .. with two", x.least(0, 2), 2);
        Check.due("with one: 100 - 30 * 4 < 0", x.least(0, 4), 1);
        Check.due("with one: 100 - 30 * 3 is 10", x.least(0, 3), 2);
        Check.due("eight", x.least(0, 8), 1);
        Check.due("nine", x.least(0, 9), NONE);
        Check.due("this QUARTER", x.least(0, 0), NONE);
        Check.due("far", x.least(0, Check.MIN), NONE);
        Check.due("far", x.least(0, Check.MAX), NONE);
        Check.due("no such", x.least(1, 1), NONE);
        Check.due("no such", x.least(-1, 1), NONE);
        x.estate(10, 20);
        Check.due("none must be", x.least(1, 1), 0);
        x.go(13);
        Check.due("eight behind", x.least(1, 9), 0);
        Check.due("nine behind", x.least(1, 10), NONE);
        Check.due("this QUARTER", x.least(1, 1), NONE);
        x.go(1);
        Check.due("FALLEN", x.least(1, 2), NONE);
    }

    private static void leastOfMany() {
        Check.part("promise 32, many");
        NoRent x = new NoRent();
        x.estate(0, 1000);
        x.person(0, 0, 0);
        for (int i = 0; i < 40; i++) {
            x.field(0, 50, 100, 0);
        }
        Check.text(x, 0, "fair 0");
        Check.due("30 of 40 leave 1000", x.least(0, 1), 31);
        Check.due("30 of 40 leave 1000", x.least(0, 8), 31);
        Check.text(x, 0, "fair 100");
        Check.due("nothing is spared", x.least(0, 8), NONE);
        NoRent y = new NoRent();
        y.estate(10, 200);
        y.person(0, 0, 0);
        y.field(0, 50, 100, 0);
        y.field(0, 50, 101, 0);
        Check.text(y, 0, "fair 89 if rent = 100");
        Check.due("11 of 11 spare", y.least(0, 1), NONE);
        Check.due("but twice", y.least(0, 2), 1);
    }

    private static void offersAndAgree() {
        Check.part("promises 33, 34");
        NoRent x = new NoRent();
        Check.due("no CLAUSES", x.agree(0, 0), 0);
        Check.due("no CLAUSES", x.agree(1, 0), NONE);
        Check.due("bad", x.offer(1001, 0), -1);
        Check.due("bad", x.offer(-1001, 0), -1);
        Check.due("bad", x.offer(0, 1001), -1);
        Check.due("bad", x.offer(0, -1001), -1);
        Check.due("edges", x.offer(1000, -1000), 1);
        Check.due("edges", x.offer(-1000, 1000), 2);
        x.offer(10, 10);
        x.offer(10, 11);
        x.offer(11, 10);
        x.offer(5, 5);
        Check.due("fewest, then the greatest sum, then the lowest bits", x.agree(10, 10), 8);
        Check.due("the only one", x.agree(11, 10), 16);
        Check.due("two", x.agree(20, 20), 8 + 16);
        Check.due("none gives as much", x.agree(1037, 0), NONE);
        Check.due("below 0", x.agree(-10_000, -10_000), 0);
        Check.due("bad", x.agree(-10_001, 0), NONE);
        Check.due("bad", x.agree(10_001, 0), NONE);
        Check.due("bad", x.agree(0, -10_001), NONE);
        Check.due("bad", x.agree(0, 10_001), NONE);
        Check.due("seven", x.offer(0, 0), 7);
        Check.due("eight", x.offer(0, 0), 8);
        Check.due("nine", x.offer(1000, 1000), 9);
        Check.due("no room", x.offer(0, 0), -5);
        Check.due("bad first", x.offer(0, 5000), -1);
        Check.due("the ninth", x.agree(900, 900), 256);
    }

    private static void wishClearCrops() {
        Check.part("promises 35, 36, 37");
        NoRent x = Scenes.tenants(7, 0);
        x.field(0, 1, 1, NONE);
        Check.due("no such", x.wish(8), -2);
        Check.due("no such", x.wish(-1), -2);
        Check.due("no HOLDER", x.wish(7), -3);
        for (int i = 0; i < 6; i++) {
            Check.due("wish", x.wish(5 - i), i + 1);
        }
        Check.due("no room", x.wish(6), -5);
        Check.due("twice first", x.wish(0), -4);
        Check.due("count", x.count(8), 6);
        Check.due("bad", x.crops(-1, 0), -1);
        Check.due("bad", x.crops(10_001, 0), -1);
        Check.due("bad", x.crops(0, -1), -1);
        Check.due("bad", x.crops(0, 10_001), -1);
        Check.due("edges", x.crops(0, 0), 1);
        Check.due("edges", x.crops(10_000, 10_000), 2);
        Check.due("three", x.crops(1, 1), 3);
        Check.due("no room", x.crops(1, 1), -5);
        Check.due("bad first", x.crops(-1, 1), -1);
        Check.due("clear", x.clear(), 6);
        Check.due("clear", x.clear(), 0);
        Check.due("count", x.count(8), 0);
        Check.due("anew", x.crops(1, 1), 1);
        Check.due("anew", x.wish(6), 1);
    }

    private static void chooseAndJudge() {
        Check.part("promises 38, 39, 40");
        // RENT 100; FAIR is all of it when the ARREAR is left alone, so who KEEPS owes no more
        NoRent x = new NoRent();
        x.estate(0, 0);
        x.person(0, 100, 0);
        x.field(0, 100, 100, 0);
        x.field(0, 100, 100, 0);
        Check.text(x, 0, "fair 20 if rent = 100");
        x.wish(0);
        x.wish(1);
        Check.due("no CROPS", x.choose(52), NONE);
        Check.due("no CROPS", x.judge(0, 52), NONE);
        x.crops(10, 10);
        // each QUARTER 20 SACKS of 10 pence: 200 pence, as much as is asked
        Check.due("none is put OUT", x.choose(104), 0);
        Check.due("no one KEEPS", x.chosen(0), 0);
        Check.due("no one KEEPS", x.chosen(1), 0);
        Check.due("no third", x.chosen(2), NONE);
        Check.due("no such", x.chosen(-1), NONE);
        Check.due("who KEEPS is in ARREAR", x.judge(1, 104), 1);
        Check.due("both", x.judge(3, 104), 2);
        Check.due("a WEEK ahead", x.judge(3, 29), 0);
        Check.due("in WEEK 29", x.judge(3, 30), 2);
        Check.due("bits", x.judge(4, 30), NONE);
        Check.due("bits", x.judge(-1, 30), NONE);
        Check.due("WEEKS", x.judge(0, 0), NONE);
        Check.due("WEEKS", x.judge(0, 105), NONE);
        Check.due("WEEKS", x.choose(105), NONE);
        Check.due("the latest stays", x.chosen(1), 0);
        // with a bad crop as well: 100 at first, 100 of SACKS in WEEK 13, none behind
        x.crops(0, 10);
        Check.due("the worst counts", x.judge(0, 104), 2);
        Check.due("paid once: 100 of 200, so the second is in ARREAR", x.judge(0, 30), 1);
        x.go(104);
        x.go(104);
        x.go(104);
        Check.due("beyond 399", x.judge(0, 88), NONE);
        Check.due("beyond 399", x.choose(88), NONE);
    }

    private static void chooseOrder() {
        Check.part("promise 38, BEST");
        // an ARREAR under a WRIT ends with the FIELD's loss, whoever KEEPS: by KEEPING for the first
        // the HOLDER has the pence that free the second
        NoRent x = new NoRent();
        x.estate(0, 0);
        x.person(0, 0, 0);
        x.person(1, 90, 0);
        x.person(2, 90, 0);
        x.field(0, 100, 100, 0);
        x.field(0, 100, 60, 1);
        x.field(0, 100, 60, 1);
        x.field(0, 100, 60, 1);
        x.field(0, 100, 60, 2);
        Check.text(x, 0, "fair 0 if house = 1;fair 60 if house = 2");
        x.wish(0);
        x.wish(1);
        x.wish(2);
        x.wish(3);
        x.crops(0, 0);
        // of 90 pence one FIELD of PERSON 1 can be paid once: 60; the second has 30, the third nothing
        Check.due("by WEEK 42 all", x.judge(0, 43), 5);
        Check.due("WORST over 30 WEEKS", x.judge(0, 30), 3);
        Check.due("the first KEEPS, the second is paid", x.judge(2, 30), 3);
        Check.due("BEST", x.choose(30), 3);
        for (int i = 0; i < 4; i++) {
            Check.due("fewest KEEPING", x.chosen(i), 0);
        }
        // two FIELDS of 60 and one of 100, 100 pence: only by KEEPING for two the third is saved
        NoRent y = new NoRent();
        y.estate(0, 0);
        y.person(0, 100, 0);
        y.field(0, 100, 60, 0);
        y.field(0, 100, 60, 0);
        y.field(0, 100, 40, 0);
        Check.text(y, 0, "fair 0;fair 60 if week > 100");
        y.wish(2);
        y.wish(1);
        y.wish(0);
        y.crops(0, 0);
        Check.due("60, 40 of 60, none", y.judge(0, 30), 2);
        Check.due("KEEPING for FIELD 0: 60, 40", y.judge(4, 30), 1);
        Check.due("KEEPING for FIELD 1: 60, 40", y.judge(2, 30), 1);
        Check.due("KEEPING for FIELD 2: 60, 40 of 60", y.judge(1, 30), 2);
        Check.due("BEST", y.choose(30), 1);
        // rows 0 0 1 and 0 1 0 are alike; 0 0 1 is the first
        Check.due("row", y.chosen(0), 0);
        Check.due("row", y.chosen(1), 0);
        Check.due("row", y.chosen(2), 1);
    }

    /** n FIELDS of RENT 100, GUARDED for ever by bits, and their one HOLDER with so many pence. */
    private static NoRent guarded(int n, int bits, int pence) {
        NoRent x = new NoRent();
        x.estate(0, 0);
        x.person(0, pence, 0);
        Check.text(x, 0, "fair 0");
        for (int f = 0; f < n; f++) {
            x.field(0, 100, 100, 0);
            if ((bits >> f & 1) == 1) {
                x.guard(f, 0, 399);
            }
        }
        x.crops(0, 0);
        return x;
    }

    private static void chooseByGuards() {
        Check.part("promise 38, who KEEPS is GUARDED");
        // KEEPING for what is GUARDED saves the pence for what is not
        for (int bits = 0; bits < 64; bits++) {
            NoRent x = guarded(6, bits, 100 * (6 - Integer.bitCount(bits)));
            for (int f = 0; f < 6; f++) {
                x.wish(f);
            }
            // what is GUARDED behind the last that is not need not KEEP: nothing is left for it anyhow
            int needed = 0;
            for (int f = 0; f < 6; f++) {
                needed |= (bits >> f & 1) == 1 && bits >> f != (1 << 6 - f) - 1 ? 1 << f : 0;
            }
            Check.due("none is put OUT, " + bits, x.choose(30), 0);
            for (int f = 0; f < 6; f++) {
                Check.due("choice " + f + " of " + bits, x.chosen(f), needed >> f & 1);
            }
            Check.due("no seventh", x.chosen(6), NONE);
            Check.due("judged alike", x.judge(needed, 30), 0);
        }
        // WISHES told the other way round
        NoRent y = guarded(3, 2, 200);
        y.wish(2);
        y.wish(1);
        y.wish(0);
        Check.due("by KEEPING for FIELD 1 alone", y.choose(30), 0);
        Check.due("FIELD 2", y.chosen(0), 0);
        Check.due("FIELD 1", y.chosen(1), 1);
        Check.due("FIELD 0", y.chosen(2), 0);
        Check.due("FIELD 1", y.judge(2, 30), 0);
        Check.due("nobody", y.judge(0, 30), 1);
    }

    private static void roomOnPaper() {
        Check.part("terms IV, room for WRITS on paper");
        NoRent x = new NoRent();
        x.estate(0, 0);
        x.person(0, 1000, 0);
        x.person(1, 150, 0);
        for (int i = 0; i < 39; i++) {
            x.field(0, 1, 1, 0);
        }
        x.field(0, 1, 100, 1);
        x.crops(0, 0);
        Check.due("who pays takes no room", x.judge(0, 43), 1);
    }

    private static void paperAlone() {
        Check.part("promises 38, 40: on paper");
        NoRent x = Scenes.tenants(2, 0);
        x.price(0, 50);
        Check.row(x, 13, 0, 100, 100);
        Check.text(x, 0, "keep;fair 0;ban if price = 3;draw 1");
        x.give(50);
        x.wish(0);
        x.crops(3, 40);
        // FIELD 0 pays 100 of 2 * 40 * 3 = 240; FIELD 1, not WISHED, KEEPS by the TEXT
        Check.due("FIELD 1 alone", x.judge(0, 30), 1);
        Check.due("both", x.judge(1, 30), 2);
        Check.due("NOW", x.count(0), 0);
        Check.due("SACKS", x.of(0, 2), 0);
        Check.due("WRITS", x.count(5), 0);
        Check.due("FUND", x.fund(), 50);
        Check.due("HOLDER", x.tells(1, 0), 1);
        Check.due("BANNED", x.of(0, 3), 0);
        Check.due("chest", x.owner(0, 0), 0);
        Check.due("KEEPS by the TEXT", x.tells(0, 4), 1);
        x.go(14);
        Check.due("no WRITS by themselves", x.tells(0, 5), NONE);
        Check.due("the ROW told", x.of(0, 2), 100);
        // no room for WRITS on paper either
        for (int i = 0; i < 60; i++) {
            x.writ(0);
            x.avoid(0);
        }
        Check.due("no room", x.judge(1, 100), 0);
        // without WISHES the CROPS alone are judged
        x.clear();
        x.crops(0, 0);
        Check.due("no WISHES", x.choose(50), 0);
        Check.due("no choice", x.chosen(0), NONE);
        Check.due("no bits", x.judge(1, 50), NONE);
        // "price" on paper is that of the CROPS told
        NoRent y = Scenes.tenants(1, 0);
        Check.text(y, 0, "keep if price = 3;fair 100 if price = 3");
        y.coin(0, 100);
        y.crops(3, 0);
        Check.due("pays what is FAIR once", y.judge(0, 30), 0);
        Check.due("not twice", y.judge(0, 43), 1);
        // SACKS in the first WEEK of a QUARTER, also WEEK 0
        NoRent z = Scenes.tenants(1, 0);
        z.field(0, 50, 0, 0);
        z.wish(0);
        z.crops(1, 67);
        // 67 and 33 in WEEK 0, as many in WEEK 13, WEEK 26 .. : 100 each, cut
        Check.due("100 each QUARTER", z.judge(0, 104), 0);
        z.go(1);
        Check.due("without WEEK 0 as well", z.judge(0, 103), 0);
        z.clear();
        z.wish(0);
        z.crops(1, 65);
        Check.due("65 + 32 are not enough", z.judge(0, 100), 1);
    }

    private static void beside() {
        Check.part("promise 41");
        NoRent x = new NoRent();
        x.estate(0, 150);
        x.person(0, 250, 0);
        x.field(0, 100, 100, 0);
        Check.tape(x, "keep;fair 30");
        Check.due("30 in place of 100", x.beside(14), -70);
        Check.due("the TAPE is empty", x.count(9), 0);
        Check.due("no TEXT more", x.count(4), 0);
        Check.due("NOW", x.count(0), 0);
        Check.due("chest", x.owner(0, 0), 0);
        Check.tape(x, "keep;fair 30");
        Check.due("90 in place of 250", x.beside(40), -160);
        Check.tape(x, "keep;fair 30");
        Check.due("210 in place of 250: what CHESTS get, not what they keep", x.beside(92), -40);
        Check.text(x, 0, "keep;fair 30");
        Check.tape(x, "strike 0 clause 0");
        Check.due("more", x.beside(14), 70);
        Check.tape(x, "ban");
        Check.due("alike", x.beside(14), 0);
        Check.tape(x, "keep");
        Check.due("bad", x.beside(0), NOTHING);
        Check.due("the TAPE is empty behind bad WEEKS", x.count(9), 0);
        Check.tape(x, "keep");
        Check.due("bad", x.beside(105), NOTHING);
        Check.due("the TAPE is empty behind bad WEEKS", x.count(9), 0);
        Check.due("not read", x.fault(), NONE);
        Check.tape(x, "keep keep");
        Check.due("a TEXT that can't be", x.beside(1), NOTHING);
        Check.due("fault", x.fault(), 5);
        Check.due("the TAPE is empty", x.count(9), 0);
        Check.due("empty", x.beside(1), NOTHING);
        Check.due("fault", x.fault(), 0);
        for (int i = 1; i < 20; i++) {
            Check.text(x, 399, "ban");
        }
        Check.tape(x, "keep keep");
        Check.due("no room", x.beside(1), NOTHING);
        Check.due("not read", x.fault(), NONE);
        Check.due("the TAPE is empty without room", x.count(9), 0);
        NoRent y = new NoRent();
        y.go(104);
        y.go(104);
        y.go(104);
        Check.tape(y, "keep");
        Check.due("beyond 399", y.beside(88), NOTHING);
        Check.due("the TAPE is empty", y.count(9), 0);
        Check.tape(y, "keep");
        Check.due("up to 399", y.beside(87), 0);
        // no WRITS by themselves, but those told go on
        NoRent z = Scenes.tenants(1, 0);
        z.go(14);
        z.coin(0, 300);
        z.writ(0);
        Check.tape(z, "step 0 1;step 1 1;step 2 1;step 3 1");
        Check.due("put OUT ahead of the next rent", z.beside(13), -200);
    }

    private static void sealAlterFound() {
        Check.part("promises 42, 43, 44");
        NoRent x = new NoRent();
        Check.due("nothing is SEALED", x.found(), -3);
        Check.due("no FIELDS", x.seal(), 0);
        Check.due("as it was", x.found(), NONE);
        x.estate(0, 0);
        for (int i = 0; i < 5; i++) {
            x.field(0, 1, 100 * i, NONE);
        }
        Check.due("more FIELDS", x.found(), -2);
        Check.due("seal", x.seal(), 5);
        Check.due("as it was", x.found(), NONE);
        for (int f = 0; f < 5; f++) {
            Check.due("alter", x.alter(f, 255), 100 * f ^ 255);
            Check.due("found", x.found(), f);
            Check.due("put right", x.alter(f, 255), 100 * f);
        }
        x.alter(0, 1);
        x.alter(4, 1);
        Check.due("two: 1 and 5, as of one at 3", x.found(), 2);
        x.alter(3, 2);
        Check.due("1 and 4 * 2 and 5: off by 4, not by 14 / 4", x.found(), -2);
        x.seal();
        Check.due("anew", x.found(), NONE);
        x.alter(1, 4);
        x.alter(2, 4);
        Check.due("the first sum is as it was", x.found(), -2);
        Check.due("bad", x.alter(0, 0), -1);
        Check.due("bad", x.alter(0, 256), -1);
        Check.due("bad first", x.alter(9, -1), -1);
        Check.due("no such", x.alter(5, 1), -2);
        Check.due("no such", x.alter(-1, 1), -2);
        Check.due("status", x.status(), -2);
        Check.due("seal keeps status", x.seal() * 0 + x.status(), -2);
        NoRent y = new NoRent();
        y.estate(0, 0);
        y.field(0, 1, 100_000, NONE);
        Check.due("beyond what a RENT may be told as", y.alter(0, 0x5F), 100_000 ^ 0x5F);
        Check.due("tells", y.tells(0, 1), 100_000 ^ 0x5F);
    }

    private static void imageAndBack() {
        Check.part("promises 45, 46");
        NoRent x = Scenes.tenants(2, 0);
        Check.due("bad", x.image(2), -1);
        Check.due("bad", x.image(-1), -1);
        Check.due("bad", x.back(2), -1);
        Check.due("bad", x.back(-1), -1);
        Check.due("not kept", x.back(1), -2);
        x.person(3, 100, 70);
        Check.text(x, 0, "ban if coin > 50");
        x.give(7);
        x.price(3, 44);
        Check.row(x, 2, 0, 1);
        x.brave(33);
        x.offer(1, 2);
        x.seal();
        x.go(14);
        x.writ(0);
        x.guard(0, 15, 15);
        x.heed(0, 2);
        Check.due("image", x.image(0), 0);
        x.coin(1, 60);
        Check.due("deal", x.deal(0, 1, 60), 1);
        x.image(1);
        x.go(30);
        x.goes(2, 4);
        x.heed(0, NONE);
        x.price(3, 1);
        x.price(14, 5);
        x.brave(101);
        x.give(9);
        x.offer(3, 4);
        x.alter(0, 1);
        x.seal();
        x.estate(5, 5);
        x.field(1, 1, 1, 1);
        x.person(1, 1, 1);
        Check.row(x, 60, 0, 1);
        Check.text(x, 0, "strike 0 clause 0");
        x.guard(1, 0, 0);
        x.coin(0, 999);
        x.writ(1);
        x.tells(0, 0);
        Check.due("put OUT", x.tells(0, 0), NONE);
        Check.due("back", x.back(0), 0);
        int[] counts = {14, 3, 1, 2, 1, 1, 0, 1};
        for (int what = 0; what < 8; what++) {
            Check.due("count(" + what + ")", x.count(what), counts[what]);
        }
        Check.due("fund", x.fund(), 7);
        Check.due("HOLDER", x.tells(0, 0), 0);
        Check.due("RENT", x.tells(0, 1), 100);
        Check.due("emptied", x.tells(0, 7), 0);
        Check.due("step", x.tells(0, 5), 0);
        Check.due("coin", x.of(0, 1), 0);
        Check.due("sacks", x.of(0, 2), 0);
        Check.due("state", x.of(2, 0), 0);
        Check.due("BANNED", x.of(2, 3), 1);
        Check.due("force", x.force(0, 0, 14), 1);
        Check.due("crop", x.crop(0, 60), NONE);
        Check.due("crop", x.crop(0, 2), 1);
        Check.due("found", x.found(), NONE);
        Check.due("brave", x.brave(33), 33);
        Check.due("heeds", x.keeps(0, 1), 1);
        Check.text(x, 0, "keep if price = 44");
        Check.due("price", x.holds(1, 0, NONE, NONE), 1);
        x.go(2);
        Check.due("guarded in WEEK 15", x.tells(0, 6), 4);
        Check.due("IMAGES stay", x.back(1), 0);
        Check.due("coin", x.of(0, 1), 60);
        Check.due("IMAGES stay", x.back(0), 0);
        Check.due("coin", x.of(0, 1), 0);
        Check.due("IMAGES stay", x.back(1), 0);
        Check.due("deals", x.count(6), 1);
        Check.due("kept anew", x.image(0), 0);
        Check.due("deal", x.deal(1, 0, 1), 2);
        x.back(0);
        Check.due("deals", x.count(6), 1);
    }

    /** What is made anew behind BACK is not what the other IMAGE has under the same number. */
    private static void imagesApart() {
        Check.part("promises 45, 46, two IMAGES");
        NoRent x = new NoRent();
        x.image(0);
        x.estate(100, 10);
        x.person(1, 5, 60);
        x.field(0, 100, 3, 0);
        x.offer(5, 5);
        x.price(0, 7);
        Check.row(x, 0, 0, 4);
        x.image(1);
        x.back(0);
        Check.due("nothing", x.count(1) + x.count(2) + x.count(3) + x.count(7), 0);
        x.estate(100, 99);
        x.person(2, 6, 10);
        x.field(0, 50, 1, NONE);
        x.offer(1, 1);
        Check.row(x, 0, 0, 8);
        x.seal();
        x.back(1);
        Check.due("crop of WEEK 0", x.crop(0, 0), 4);
        Check.due("offer", x.agree(5, 5), 1);
        Check.due("not SEALED", x.found(), -3);
        Check.due("price", x.go(1) + x.of(0, 2), 1 + 4);
        x.go(13);
        Check.due("rent and mortgage", x.owner(0, 0), 100 + 3 - 10);
        // GRABBED stays so, in an IMAGE and on paper
        NoRent y = Scenes.tenants(2, 0);
        Check.text(y, 0, "grab;step 0 1;step 1 1;step 2 1;step 3 1;keep if grabs;fair 1");
        y.go(14);
        y.writ(0);
        y.go(5);
        y.coin(1, 1000);
        Check.due("GRAB", y.take(1, 0, 0), 0);
        y.image(0);
        Check.due("grabs", y.holds(0, 5, 1, NONE), 1);
        Check.tape(y, "ban");
        Check.due("1 and 1 of each QUARTER", y.beside(10), 0);
        Check.tape(y, "strike 0 clause 5");
        Check.due("RENTS and ARREARS of two FIELDS", y.beside(10), 400 - 2);
        y.writ(0);
        y.go(20);
        Check.due("put OUT", y.holds(0, 5, 1, NONE), 0);
        y.back(0);
        Check.due("grabs", y.holds(0, 5, 1, NONE), 1);
    }

    private static void planOutlivesBack() {
        Check.part("terms IV, IMAGES");
        NoRent x = Scenes.tenants(1, 0);
        x.image(0);
        x.person(9, 0, 0);
        x.field(0, 1, 1, 1);
        x.wish(1);
        x.crops(1, 1);
        x.choose(5);
        Check.text(x, 0, "x");
        Check.tape(x, "abcd");
        x.back(0);
        Check.due("WISHES", x.count(8), 1);
        Check.due("TAPE", x.count(9), 4);
        Check.due("FAULT", x.fault(), 0);
        Check.due("BEST", x.chosen(0), 0);
        Check.due("not there any more", x.choose(5), NONE);
        Check.due("not there any more", x.judge(0, 5), NONE);
        x.field(0, 1, 1, NONE);
        Check.due("there again", x.judge(0, 5), 0);
        Check.due("without a HOLDER", x.judge(1, 100), 1);
        Check.due("CROPS", x.crops(1, 1), 2);
    }

    private static void count() {
        Check.part("promise 47");
        NoRent x = Scenes.tenants(3, 0);
        x.estate(0, 0);
        Check.text(x, 0, "keep");
        x.coin(0, 10);
        x.deal(1, 0, 5);
        x.deal(1, 0, 5);
        x.offer(0, 0);
        x.wish(0);
        x.go(14);
        x.coin(0, 10);
        x.writ(1);
        x.feed(0, 0, 0, 0, 0);
        int[] counts = {14, 3, 2, 3, 1, 1, 2, 1, 1, 20, NONE};
        for (int what = 0; what <= 10; what++) {
            Check.due("count(" + what + ")", x.count(what), counts[what]);
        }
        Check.due("count(-1)", x.count(-1), NONE);
    }

    private static void status() {
        Check.part("promise 48");
        NoRent x = Scenes.tenants(1, 0);
        x.go(1);
        int[] answers = {x.person(20, 0, 0), x.status(), x.heed(0, 0), x.status(), x.goes(5, 0), x.status(),
            x.coin(0, -1), x.status(), x.give(-1), x.status(), x.estate(-1, 0), x.status(), x.field(3, 1, 1, 0), x.status(),
            x.price(400, 0), x.status(), x.row(0, 0), x.status(), x.text(0), x.status(), x.writ(0), x.status(),
            x.avoid(0), x.status(), x.guard(5, 0, 0), x.status(), x.take(0, 0, 1), x.status(), x.go(0), x.status(),
            x.deal(0, 0, 1), x.status(), x.brave(-1), x.status(), x.offer(5000, 0), x.status(), x.wish(5), x.status(),
            x.crops(-1, 0), x.status(), x.alter(0, 0), x.status(), x.image(2), x.status(), x.back(0), x.status()};
        int[] due = {-1, -3, -2, -1, -1, -1, -2, -1, -3, -6, -3, -3, -2, -3, -1, -3, -1, -1, -2, -1, -1, -1, -2};
        for (int i = 0; i < due.length; i++) {
            Check.due("refused call " + i, answers[2 * i], due[i]);
            Check.due("status of it", answers[2 * i + 1], due[i]);
        }
        // others leave it as it is
        x.of(9, 9);
        x.tells(9, 9);
        x.owner(9, 9);
        x.fund();
        x.crop(9, 9);
        x.feed(0, 0, 0, 0, 0);
        x.end(0);
        x.fault();
        x.force(0, 0, 0);
        x.holds(0, 0, 0, 0);
        x.keeps(0, 0);
        x.broke(0, 0, 0, 0);
        x.last(0, 0, 0);
        x.least(0, 0);
        x.agree(0, 0);
        x.clear();
        x.choose(0);
        x.chosen(0);
        x.judge(0, 0);
        x.beside(0);
        x.seal();
        x.found();
        x.count(0);
        Check.due("as it was", x.status(), -2);
        int[] good = {x.person(0, 0, 0), x.status(), x.heed(0, 1), x.status(), x.goes(1, 0), x.status(), x.coin(0, 1), x.status(),
            x.give(0), x.status(), x.estate(0, 0), x.status(), x.price(0, 0), x.status(), x.image(0), x.status(), x.back(0), x.status(),
            x.brave(50), x.status(), x.offer(0, 0), x.status(), x.wish(0), x.status(), x.crops(0, 0), x.status(), x.alter(0, 1), x.status()};
        for (int i = 0; i < good.length / 2; i++) {
            Check.due("good call " + i + " is not refused", good[2 * i] >= 0);
            Check.due("status of it", good[2 * i + 1], 0);
        }
    }
}
