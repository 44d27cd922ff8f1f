/** Terms I, sentence by sentence: each limit from both sides, full, empty, refused. */
public final class TermsOneTest {
    private static final int NONE = NoRent.NONE;
    private static final int MIN = Check.MIN;
    private static final int MAX = Check.MAX;

    public static void main(String[] args) {
        weeks();
        nowIsZeroAtFirst();
        aQuarterIsThirteenWeeks();
        fortyPersons();
        aPersonAtFirst();
        coinLaterAtMost();
        eightEstates();
        fortyFields();
        aFieldAtFirst();
        theFundAtFirst();
        theFirstRefusalInOrder();
        priceOfTheLatestWeekNotBehind();
        priceWithout();
        rowOfNowAndBehindIt();
        rowOnce();
        highestByteFirst();
        oneForEachFieldFromAField();
        noNumberOrNotWithin();
        theNeighbours();
        theRowAloneHasNeighbours();
        theMeanAsDoubles();
        theTapeEndsWithinAFloat();
        sacksAsDoublesCut();
        Check.close();
    }

    private static void weeks() {
        Check.part("I: WEEKS 0 .. 399");
        for (int week : new int[] {-1, 400, MIN, MAX}) {
            NoRent x = Scenes.tenants(1, 0);
            Check.text(x, 0, "keep");
            Check.due("price of " + week, x.price(week, 1), -1);
            Check.due("guard from " + week, x.guard(0, week, 399), -1);
            Check.due("guard to " + week, x.guard(0, 0, week), -1);
            Check.due("force in " + week, x.force(0, 0, week), NONE);
            Check.due("crop of " + week, x.crop(0, week), NONE);
            Check.due("row of " + week, Check.row(x, week, 0, 1), -1);
            Check.due("text from " + week, Check.text(x, week, "keep"), -1);
        }
        for (int week : new int[] {0, 399}) {
            NoRent x = Scenes.tenants(1, 0);
            Check.text(x, 0, "keep");
            Check.due("price of " + week, x.price(week, 1), 0);
            Check.due("guard in " + week, x.guard(0, week, week), 1);
            Check.due("force in " + week, x.force(0, 0, week), 1);
            Check.due("row of " + week, Check.row(x, week, 0, 6), 1);
            Check.due("crop of " + week, x.crop(0, week), 6);
            Check.due("text from " + week, Check.text(x, week, "keep"), 1);
        }
    }

    private static void nowIsZeroAtFirst() {
        Check.part("I: NOW is 0 at first");
        NoRent x = new NoRent();
        Check.due("NOW", x.count(0), 0);
        Check.due("one WEEK", x.go(1), 1);
    }

    private static void aQuarterIsThirteenWeeks() {
        Check.part("I: a QUARTER is 13 WEEKS");
        NoRent x = new NoRent();
        x.estate(0, 0);
        x.person(0, 100, 0);
        x.field(0, 1, 1, 0);
        x.go(13);
        for (int quarter = 1; quarter < 30; quarter++) {
            Check.due("ahead of WEEK " + 13 * quarter, x.owner(0, 0), quarter - 1);
            x.go(1);
            Check.due("behind WEEK " + 13 * quarter, x.owner(0, 0), quarter);
            x.go(12);
        }
        Check.due("NOW", x.count(0), 390);
        x.go(9);
        Check.due("the last of them is WEEK 390", x.owner(0, 0), 30);
    }

    private static void fortyPersons() {
        Check.part("I: PERSONS 0 .. 39 (40 at most)");
        NoRent x = new NoRent();
        for (int i = 0; i < 40; i++) {
            Check.due("not there yet", x.of(i, 1), NONE);
            Check.due("number", x.person(0, i, 0), i);
            Check.due("there", x.of(i, 1), i);
        }
        Check.due("full", x.person(0, 0, 0), -5);
        Check.due("still 40", x.count(1), 40);
        Check.due("no 41st", x.of(40, 1), NONE);
        Check.due("below 0", x.of(-1, 1), NONE);
    }

    private static void aPersonAtFirst() {
        Check.part("I: HEED of another one (none at first), SACKS (0 at first); 0 in the HOUSE");
        NoRent x = new NoRent();
        x.person(19, 7, 49);
        x.person(0, 0, 100);
        Check.due("it heeds nobody, not even the one who fears", x.keeps(0, 1), 0);
        int[] is = {0, 7, 0, 0, NONE, 0};
        for (int what = 0; what < is.length; what++) {
            Check.due("of(0, " + what + ")", x.of(0, what), is[what]);
        }
    }

    private static void coinLaterAtMost() {
        Check.part("I: what would come beyond 10,000,000 by coin(), DEALS, draws is lost");
        NoRent x = new NoRent();
        x.person(0, 999_998, 0);
        x.person(1, 10, 0);
        for (int i = 0; i < 9; i++) {
            x.coin(0, 1_000_000);
        }
        Check.due("one less than most", x.coin(0, 1), 9_999_999);
        x.image(0);
        Check.due("coin(): most", x.coin(0, 1), 10_000_000);
        x.back(0);
        Check.due("coin(): beyond", x.coin(0, 2), 10_000_000);
        Check.due("coin(): far beyond", x.coin(0, 1_000_000), 10_000_000);
        x.back(0);
        Check.due("DEAL: most", x.deal(0, 1, 1), 1);
        Check.due("DEAL: the seller", x.of(0, 1), 10_000_000);
        Check.due("DEAL: beyond", x.deal(0, 1, 1), 2);
        Check.due("DEAL: the seller", x.of(0, 1), 10_000_000);
        Check.due("DEAL: the buyer has paid", x.of(1, 1), 8);
        drawnBeyond(9_999_999, 1, 10_000_000);
        drawnBeyond(9_999_999, 2, 10_000_000);
        drawnBeyond(9_999_998, 1, 9_999_999);
    }

    private static void drawnBeyond(int coin, int draw, int then) {
        NoRent x = Scenes.putOut(1, "draw " + draw);
        for (int i = 0; i < 9; i++) {
            x.coin(0, 1_000_000);
        }
        x.coin(0, coin - 9_000_000);
        x.give(5);
        x.go(1);
        Check.due(coin + " and a draw of " + draw, x.of(0, 1), then);
        Check.due("the FUND has paid " + draw, x.fund(), 5 - draw);
    }

    private static void eightEstates() {
        Check.part("I: ESTATES 0 .. 7 (8 at most)");
        NoRent x = new NoRent();
        for (int i = 0; i < 8; i++) {
            Check.due("not there yet", x.owner(i, 0), NONE);
            Check.due("number", x.estate(i + 1, 0), i);
            Check.due("there", x.owner(i, 0), i + 1);
        }
        Check.due("full", x.estate(0, 0), -5);
        Check.due("still 8", x.count(2), 8);
        Check.due("no ninth", x.owner(8, 0), NONE);
        Check.due("a FIELD of the last", x.field(7, 1, 0, NONE), 0);
        Check.due("a FIELD of a ninth", x.field(8, 1, 0, NONE), -2);
    }

    private static void fortyFields() {
        Check.part("I: FIELDS 0 .. 39 (40 at most)");
        NoRent x = new NoRent();
        x.estate(0, 0);
        for (int i = 0; i < 40; i++) {
            Check.due("not there yet", x.tells(i, 1), NONE);
            Check.due("number", x.field(0, 1, i, NONE), i);
            Check.due("there", x.tells(i, 1), i);
        }
        Check.due("full", x.field(0, 1, 0, NONE), -5);
        Check.due("still 40", x.count(3), 40);
        Check.due("no 41st", x.tells(40, 1), NONE);
    }

    private static void aFieldAtFirst() {
        Check.part("I: a HOLDER or none, an ARREAR (0 at first)");
        NoRent x = new NoRent();
        x.estate(0, 0);
        x.person(0, 0, 0);
        x.field(0, 1, 9, NONE);
        x.field(0, 1, 9, 0);
        int[] without = {NONE, 9, 0, NONE, 0, NONE, NONE, 0};
        int[] with = {0, 9, 0, 9, 0, NONE, NONE, 0};
        for (int what = 0; what < 8; what++) {
            Check.due("tells(0, " + what + ")", x.tells(0, what), without[what]);
            Check.due("tells(1, " + what + ")", x.tells(1, what), with[what]);
        }
        Check.due("no ARREAR: no WRIT", x.writ(1), -3);
    }

    private static void theFundAtFirst() {
        Check.part("I: FUND: 0 pence at first");
        NoRent x = new NoRent();
        Check.due("fund", x.fund(), 0);
        Check.due("it lasts for nothing", x.last(1, 1, 0), 0);
    }

    /** Each of these calls could be refused by the numbers that it names; the first of them is due. */
    private static void theFirstRefusalInOrder() {
        Check.part("I: REFUSED by the first of these in that order");
        NoRent x = full();
        Check.due("person: -1, -5", x.person(20, 0, 0), -1);
        Check.due("estate: -1, -5", x.estate(-1, 0), -1);
        Check.due("field: -1, -2", x.field(8, 0, 0, 0), -1);
        Check.due("field: -1, -3", x.field(0, 0, 0, 1), -1);
        Check.due("field: -1, -5", x.field(0, 0, 0, 0), -1);
        Check.due("field: -2, -3", x.field(8, 1, 0, 1), -2);
        Check.due("field: -2, -5", x.field(0, 1, 0, 40), -2);
        Check.due("field: -3, -5", x.field(0, 1, 0, 1), -3);
        Check.due("heed: -2, -3", x.heed(40, 40), -2);
        Check.due("goes: -1, -2", x.goes(40, 5), -1);
        Check.due("goes: -1, -3", x.goes(2, -1), -1);
        Check.due("coin: -1, -2", x.coin(40, -1), -1);
        Check.due("row: -1, -2", Check.row(x, 400, 40, 1), -1);
        Check.due("row: -1, -6", Check.row(x, -1, 0), -1);
        Check.due("row: -2, -3", Check.row(x, 0, 40, 1), -2);
        Check.due("row: -2, -4", Check.row(x, 20, -1, 1), -2);
        Check.due("row: -2, -6", Check.row(x, 30, 40), -2);
        Check.due("row: -3, -4", Check.row(x, 13, 0, 1), -3);
        Check.due("row: -3, -6", Check.row(x, 0, 0), -3);
        Check.due("row: -4, -6", Check.row(x, 20, 0), -4);
        Check.due("row: -4, -6", Check.row(x, 20, 39, 1, 2), -4);
        Check.due("text: -1, -5", Check.text(x, 400, "keep"), -1);
        Check.due("text: -1, -6", Check.text(x, 400, ""), -1);
        Check.due("text: -5, -6", Check.text(x, 0, "x"), -5);
        Check.due("guard: -1, -2", x.guard(40, 0, 400), -1);
        Check.due("guard: -1, -5", x.guard(0, 400, 0), -1);
        Check.due("guard: -2, -5", x.guard(40, 0, 0), -2);
        Check.due("guard: -5", x.guard(0, 0, 0), -5);
        Check.due("take: -1, -2", x.take(40, 0, 2), -1);
        Check.due("take: -1, -3", x.take(1, 0, -1), -1);
        Check.due("take: -2, -3", x.take(1, 40, 0), -2);
        Check.due("offer: -1, -5", x.offer(1001, 0), -1);
        Check.due("wish: -2, -5", x.wish(40), -2);
        Check.due("wish: -3, -5", x.wish(39), -3);
        Check.due("wish: -4, -5", x.wish(0), -4);
        Check.due("crops: -1, -5", x.crops(10_001, 0), -1);
        Check.due("alter: -1, -2", x.alter(40, 0), -1);
        Check.due("back: -1, -2", x.back(2), -1);
        firstOfWritsAndDeals();
        wishedAndLost();
    }

    /** No room for PERSONS, FIELDS, TEXTS .. ; PERSON 1 is on the ROAD, 2 is DEAD, FIELD 39 has no HOLDER, NOW is 14. */
    private static NoRent full() {
        NoRent x = new NoRent();
        for (int i = 0; i < 40; i++) {
            x.person(i % 20, 0, 60);
        }
        for (int i = 0; i < 8; i++) {
            x.estate(0, 0);
        }
        for (int i = 0; i < 40; i++) {
            x.field(i % 8, 100, 0, i == 39 ? NONE : i);
        }
        Check.row(x, 13, 0, 1);
        Check.row(x, 20, 0, 1);
        x.goes(1, 1);
        x.goes(2, 4);
        x.go(14);
        for (int i = 0; i < 40; i++) {
            x.guard(0, 399, 399);
        }
        for (int i = 0; i < 20; i++) {
            Check.text(x, 0, "ban");
        }
        for (int i = 0; i < 9; i++) {
            x.offer(0, 0);
        }
        for (int i = 0; i < 6; i++) {
            x.wish(i);
        }
        for (int i = 0; i < 3; i++) {
            x.crops(0, 0);
        }
        return x;
    }

    private static void firstOfWritsAndDeals() {
        NoRent x = Scenes.tenants(3, 0);
        x.field(0, 1, 0, NONE);
        x.go(14);
        x.writ(1);
        for (int i = 2; i < 60; i++) {
            x.writ(0);
            x.avoid(0);
        }
        Check.due("the last that has room", x.writ(0), 60);
        Check.due("writ: -3, -5, under one", x.writ(1), -3);
        Check.due("writ: -3, -5, no HOLDER", x.writ(3), -3);
        Check.due("writ: -5", x.writ(2), -5);
        x.coin(0, 200);
        for (int i = 0; i < 199; i++) {
            x.deal(1, 0, 1);
        }
        Check.due("the last that has room", x.deal(1, 0, 1), 200);
        Check.due("deal: -1, -2", x.deal(40, 0, 0), -1);
        Check.due("deal: -1, -3", x.deal(0, 0, 10_001), -1);
        Check.due("deal: -1, -5", x.deal(0, 1, 0), -1);
        Check.due("deal: -2, -3", x.deal(40, 40, 1), -2);
        Check.due("deal: -2, -5", x.deal(0, 40, 1), -2);
        Check.due("deal: -3, -5", x.deal(0, 0, 1), -3);
        Check.due("deal: -3, -5", x.deal(1, 0, 1), -3);
        Check.due("deal: -5", x.deal(0, 1, 1), -5);
    }

    /** A WISHED FIELD without a HOLDER any more: it can't be by what stands, ahead of twice. */
    private static void wishedAndLost() {
        NoRent x = Scenes.tenants(1, 0);
        Check.text(x, 0, Scenes.QUICK);
        x.wish(0);
        x.go(14);
        x.writ(0);
        x.go(5);
        Check.due("wish: -3, -4", x.wish(0), -3);
    }

    private static void priceOfTheLatestWeekNotBehind() {
        Check.part("I: PRICE: what was told of the latest WEEK not behind it (0 .. 10,000)");
        NoRent x = new NoRent();
        Check.text(x, 0, "keep if price=100;keep if price=7;keep if price=0;keep if price=10000");
        x.price(8, 0);
        x.price(5, 7);
        x.price(10, 10_000);
        int[] is = {0, 0, 0, 0, 0, 1, 1, 1, 2, 2, 3, 3};
        for (int week = 0; week < is.length; week++) {
            for (int c = 0; c < 4; c++) {
                Check.due("WEEK " + week + ", clause " + c, x.holds(0, c, NONE, NONE), c == is[week] ? 1 : 0);
            }
            x.go(1);
        }
        x.price(9, 100);
        Check.due("of a WEEK ahead of the latest", x.holds(0, 3, NONE, NONE), 1);
        x.price(11, 100);
        Check.due("of a later one, behind which NOW is", x.holds(0, 0, NONE, NONE), 1);
        x.price(11, 7);
        Check.due("told anew", x.holds(0, 1, NONE, NONE), 1);
        x.price(13, 0);
        Check.due("behind NOW", x.holds(0, 1, NONE, NONE), 1);
    }

    private static void priceWithout() {
        Check.part("I: PRICE: 100 without");
        NoRent x = new NoRent();
        Check.text(x, 0, "keep if price=100;keep if price=7");
        x.price(1, 7);
        Check.due("WEEK 0", x.holds(0, 0, NONE, NONE), 1);
        x.price(0, 7);
        Check.due("told of WEEK 0", x.holds(0, 1, NONE, NONE), 1);
        NoRent y = new NoRent();
        Check.text(y, 0, "keep if price=100;keep if price=7");
        y.go(104);
        Check.due("WEEK 104", y.holds(0, 0, NONE, NONE), 1);
        y.price(0, 7);
        Check.due("told of WEEK 0, asked in WEEK 104", y.holds(0, 1, NONE, NONE), 1);
    }

    private static void rowOfNowAndBehindIt() {
        Check.part("I: a ROW of a WEEK (behind NOW or NOW itself)");
        NoRent x = Scenes.tenants(1, 0);
        x.go(5);
        Check.due("ahead of NOW", Check.row(x, 4, 0, 3), -3);
        Check.due("nothing told", x.crop(0, 4), NONE);
        Check.due("NOW", Check.row(x, 5, 0, 3), 1);
        Check.due("behind NOW", Check.row(x, 6, 0, 4), 1);
        Check.due("the last", Check.row(x, 399, 0, 5), 1);
        x.go(1);
        Check.due("NOW's", x.of(0, 2), 3);
        Check.due("gone by", Check.row(x, 5, 0, 3), -3);
        x.go(1);
        Check.due("the next one's", x.of(0, 2), 7);
    }

    private static void rowOnce() {
        Check.part("I: a ROW of a WEEK (once)");
        NoRent x = Scenes.tenants(2, 0);
        Check.due("once", Check.row(x, 3, 0, 3), 1);
        Check.due("twice", Check.row(x, 3, 0, 4), -4);
        Check.due("twice, of another FIELD", Check.row(x, 3, 1, 4), -4);
        Check.due("as it was", x.crop(0, 3), 3);
        Check.due("as it was", x.crop(1, 3), NONE);
    }

    private static void highestByteFirst() {
        Check.part("I: floats, four bytes each (the highest first)");
        NoRent x = Scenes.tenants(5, 0);
        // 1, 2.5, 1000, 0.125, 64 as Java writes their bits
        x.feed(0x3F800000, 0x40200000, 0x447A0000, 0x3E000000, 0x42800000);
        Check.due("five", x.row(0, 0), 5);
        int[] sacks = {1, 2, 1000, 0, 64};
        for (int f = 0; f < 5; f++) {
            Check.due("FIELD " + f, x.crop(f, 0), sacks[f]);
        }
    }

    private static void oneForEachFieldFromAField() {
        Check.part("I: one for each FIELD from a FIELD on");
        NoRent x = Scenes.tenants(4, 0);
        Check.due("from FIELD 1 on", Check.row(x, 0, 1, 5, 6), 2);
        int[] sacks = {NONE, 5, 6, NONE};
        for (int f = 0; f < 4; f++) {
            Check.due("FIELD " + f, x.crop(f, 0), sacks[f]);
        }
        Check.due("the last FIELD alone", Check.row(x, 1, 3, 7), 1);
        Check.due("the last FIELD alone", x.crop(3, 1), 7);
        Check.due("as many as there are", Check.row(x, 2, 0, 1, 2, 3, 4), 4);
        Check.due("one more than there are", Check.row(x, 3, 0, 1, 2, 3, 4, 5), -6);
        Check.due("one more than there are from there on", Check.row(x, 3, 1, 1, 2, 3, 4), -6);
        x.go(1);
        Check.due("who has nothing of it", x.of(0, 2), 0);
        Check.due("who has something of it", x.of(2, 2), 6);
    }

    private static void noNumberOrNotWithin() {
        Check.part("I: one that is no number, or not within 0 .. 1000, is the neighbours'");
        float[] good = {0f, -0f, 1000f, Math.nextDown(1000f), Float.MIN_VALUE, Float.MIN_NORMAL};
        int[] sacks = {0, 0, 1000, 999, 0, 0};
        for (int i = 0; i < good.length; i++) {
            NoRent x = Scenes.tenants(2, 0);
            Check.due("of " + good[i], Check.row(x, 0, 0, 10, good[i]), 2);
            Check.due(good[i] + " counts", x.crop(1, 0), sacks[i]);
        }
        float[] bad = {Math.nextUp(1000f), -Float.MIN_VALUE, -Float.MIN_NORMAL, -1f, 1023f, 1024f, 2047f, 2048f, 65536f, -1000f,
            Float.MAX_VALUE, -Float.MAX_VALUE, Float.NaN, Float.POSITIVE_INFINITY, Float.NEGATIVE_INFINITY,
            Float.intBitsToFloat(0x7F800001), Float.intBitsToFloat(-1), Float.intBitsToFloat(0xFF812345)};
        for (float b : bad) {
            NoRent x = Scenes.tenants(2, 0);
            Check.due("of " + b, Check.row(x, 0, 0, 10, b), 2);
            Check.due(b + " does not count", x.crop(1, 0), 10);
        }
    }

    private static void theNeighbours() {
        Check.part("I: the mean of the nearest one ahead and the nearest one behind it (the one, if there is one alone; 0 without)");
        float bad = Float.NaN;
        NoRent x = Scenes.tenants(9, 0);
        Check.due("nine", Check.row(x, 0, 0, bad, bad, 4, bad, bad, 10, 20, bad, bad), 9);
        int[] sacks = {4, 4, 4, 7, 7, 10, 20, 20, 20};
        for (int f = 0; f < 9; f++) {
            Check.due("FIELD " + f, x.crop(f, 0), sacks[f]);
        }
        Check.due("none counts", Check.row(x, 1, 0, bad, -1, 1001), 3);
        for (int f = 0; f < 3; f++) {
            Check.due("0 without", x.crop(f, 1), 0);
        }
        Check.due("0 is a neighbour as well", Check.row(x, 2, 0, 0, bad, 8, bad, 0), 5);
        Check.due("the mean of 0 and 8", x.crop(1, 2), 4);
        Check.due("the mean of 8 and 0", x.crop(3, 2), 4);
        Check.due("one bad float alone", Check.row(x, 3, 5, bad), 1);
        Check.due("one bad float alone", x.crop(5, 3), 0);
        // halves count as well: 10 SACKS for each 1
        NoRent y = new NoRent();
        y.estate(0, 0);
        for (int f = 0; f < 5; f++) {
            y.field(0, 1000, 0, NONE);
        }
        Check.row(y, 0, 0, bad, 0.5f, bad, 4, bad);
        int[] halves = {5, 5, 22, 40, 40};
        Check.row(y, 1, 0, bad, 4, bad, 0.5f, bad);
        int[] turned = {40, 40, 22, 5, 5};
        for (int f = 0; f < 5; f++) {
            Check.due("halves, FIELD " + f, y.crop(f, 0), halves[f]);
            Check.due("halves turned, FIELD " + f, y.crop(f, 1), turned[f]);
        }
    }

    /** What an earlier ROW, or what is ahead of the ROW's first FIELD, had is nobody's neighbour. */
    private static void theRowAloneHasNeighbours() {
        Check.part("I: nearest in the ROW");
        NoRent x = Scenes.tenants(6, 0);
        Check.row(x, 0, 0, 50, 60, 70, 80, 90, 100);
        Check.due("shorter than the one ahead of it", Check.row(x, 1, 0, 4, Float.NaN), 2);
        Check.due("the one ahead alone", x.crop(1, 1), 4);
        Check.due("begins later", Check.row(x, 2, 3, Float.NaN, 8), 2);
        Check.due("the one behind alone", x.crop(3, 2), 8);
        Check.due("one alone", Check.row(x, 3, 0, Float.NaN), 1);
        Check.due("none", x.crop(0, 3), 0);
    }

    private static void theMeanAsDoubles() {
        Check.part("I: the mean, as doubles");
        // as floats, these would be one SACK off
        float[][] rows = {{676.2f, 457.29f, 851, 4823}, {493.52f, 643.98f, 720, 4094}, {896.6f, 183.4f, 790, 4265},
            {750.3f, 397.27f, 679, 3896}, {805.43f, 436.33f, 570, 3539}};
        for (float[] row : rows) {
            NoRent x = new NoRent();
            x.estate(0, 0);
            for (int f = 0; f < 3; f++) {
                x.field(0, (int) row[2], 0, NONE);
            }
            Check.row(x, 0, 0, row[0], Float.NaN, row[1]);
            Check.due("of " + row[0] + " and " + row[1], x.crop(1, 0), (int) row[3]);
        }
    }

    private static void theTapeEndsWithinAFloat() {
        Check.part("I: if the TAPE ends within a float");
        for (int cut = 1; cut < 4; cut++) {
            NoRent x = Scenes.tenants(5, 0);
            Check.tape(x, 6f, Float.NaN, 9f);
            x.end(8 + cut);
            Check.due("its FIELD has nothing, " + cut, x.row(0, 1), 2);
            int[] sacks = {NONE, 6, 6, NONE, NONE};
            for (int f = 0; f < 5; f++) {
                Check.due("FIELD " + f + ", and it is no neighbour", x.crop(f, 0), sacks[f]);
            }
            Check.tape(x, 6f, 7f, 8f);
            x.end(8 + cut);
            Check.due("it counts as a float, " + cut, x.row(1, 3), -6);
            Check.tape(x, 6f, 7f, 8f);
            x.end(8 + cut);
            Check.due("it counts as a float, and that is not too many", x.row(1, 2), 2);
            Check.tape(x, 9f);
            x.end(cut);
            Check.due("it alone", x.row(2, 0), 0);
            Check.due("it alone", x.crop(0, 2), NONE);
            Check.due("but the ROW was told", Check.row(x, 2, 0, 1), -4);
            x.go(3);
            Check.due("no SACKS of it", x.of(3, 2), 7);
        }
        NoRent y = Scenes.tenants(1, 0);
        Check.tape(y, 6f);
        y.end(4);
        Check.due("whole", y.row(0, 0), 1);
        Check.due("whole", y.crop(0, 0), 6);
    }

    private static void sacksAsDoublesCut() {
        Check.part("I: SACKS: its number times WORTH through 100 (as doubles, in that order), cut");
        // in another order, as floats, or rounded, these would be one SACK off
        float[][] rows = {{230, 50, 115}, {970, 210, 2037}, {577, 300, 1731}, {240, 205, 492}, {390, 510, 1989}, {107.1f, 1000, 1070},
            {135.2f, 750, 1013}, {648.8f, 125, 810}, {342.8f, 500, 1713}, {9.2f, 475, 43}, {0.999f, 100, 0}, {1000, 1000, 10_000},
            {1000, 1, 10}, {0.01f, 1000, 0}, {99, 1, 0}, {100, 1, 1}};
        for (float[] row : rows) {
            NoRent x = new NoRent();
            x.estate(0, 0);
            x.field(0, (int) row[1], 0, NONE);
            Check.row(x, 0, 0, row[0]);
            Check.due(row[0] + " of WORTH " + (int) row[1], x.crop(0, 0), (int) row[2]);
        }
    }
}
