/** Terms IV, sentence by sentence: LAST, LEAST, OFFERS, CHOICES, TRIED, SEALED, IMAGES. */
public final class TermsFourTest {
    private static final int NONE = NoRent.NONE;
    private static final long NOTHING = -2_000_000_000_000L;

    public static void main(String[] args) {
        lastPaysWhole();
        lastAtMost();
        leastQuarters();
        leastCantPay();
        leastOfItsFieldsWithHolders();
        leastOfTheGreatestSavings();
        leastAsFairIsNow();
        leastNotEvenAll();
        nineOffers();
        atLeast();
        fewestThenGreatestThenLowest();
        sixWishes();
        threeCrops();
        weeksOnPaper();
        paysRentOrKeeps();
        cropsInPlaceOfRowsAndPrices();
        sacksCut();
        comesUnderAWrit();
        toldInThatWeek();
        notUnderAWrit();
        ifThereIsRoom();
        worstOfTheCrops();
        allArePutOut();
        bestRow();
        onPaper();
        tried();
        triedWeeks();
        triedAllElseAsItIs();
        triedAsksBanned();
        triedPenceThatChestsGet();
        sealed();
        altered();
        found();
        foundByTheSecondSum();
        moreFieldsThanThen();
        imagesKeepAll();
        imagesOfWrits();
        imagesOfWhatWasLost();
        imagesKeepNot();
        imagesStay();
        newBehindBack();
        Check.close();
    }

    private static void lastPaysWhole() {
        Check.part("IV: LAST: for how many WEEKS the FUND, as it is, pays whole");
        // FUND, pence, n, more, WEEKS
        int[][] rows = {{60, 10, 1, 0, 6}, {59, 10, 1, 0, 5}, {61, 10, 1, 0, 6}, {9, 10, 1, 0, 0}, {10, 10, 1, 0, 1}, {60, 10, 0, 1, 4},
            {59, 10, 0, 1, 3}, {60, 10, 1, 1, 3}, {59, 10, 1, 1, 2}, {0, 1, 1, 0, 0}, {0, 1, 0, 1, 1}, {0, 1, 0, 0, 400}, {1000, 1, 1000, 0, 1},
            {999, 1, 1000, 0, 0}, {10_000, 10_000, 1, 0, 1}, {9_999, 10_000, 1, 0, 0}, {10_000_000, 10_000, 1000, 1000, 1},
            {9_999_999, 10_000, 1000, 1000, 0}, {3_000, 1, 0, 1000, 3}, {2_999, 1, 0, 1000, 2}};
        for (int[] row : rows) {
            NoRent x = new NoRent();
            x.give(row[0]);
            String what = "FUND " + row[0] + ": last(" + row[1] + ", " + row[2] + ", " + row[3] + ")";
            Check.due(what, x.last(row[1], row[2], row[3]), row[4]);
            Check.due("the FUND stays", x.fund(), row[0]);
        }
    }

    private static void lastAtMost() {
        Check.part("IV: LAST (400 at most)");
        int[] fund = {399, 400, 401, 10_000_000};
        int[] weeks = {399, 400, 400, 400};
        for (int i = 0; i < fund.length; i++) {
            NoRent x = new NoRent();
            x.give(fund[i]);
            Check.due("FUND " + fund[i], x.last(1, 1, 0), weeks[i]);
        }
        NoRent y = new NoRent();
        for (int i = 0; i < 10; i++) {
            y.give(10_000_000);
        }
        Check.due("the greatest FUND", y.last(1, 1000, 0), 400);
        Check.due("the greatest FUND", y.last(250, 1000, 0), 400);
        Check.due("the greatest FUND", y.last(251, 1000, 0), 398);
        // 10,000 a thousand times, two thousand times, ..: 10 + 20 + 30 of 100 million
        Check.due("the greatest numbers", y.last(10_000, 1000, 1000), 4);
        Check.due("beyond an int in the end", y.last(10_000, 0, 1000), 5);
    }

    private static void leastQuarters() {
        Check.part("IV: LEAST: by a QUARTER q (one to eight behind that of NOW)");
        int[] nows = {0, 1, 12, 13};
        for (int now : nows) {
            NoRent x = new NoRent();
            x.estate(0, 1_000_000);
            x.estate(10_000_000, 1);
            if (now > 0) {
                x.go(now);
            }
            int quarter = now / 13;
            for (int q = quarter - 2; q <= quarter + 10; q++) {
                boolean can = q > quarter && q <= quarter + 8;
                Check.due("NOW " + now + ", q " + q + ", at once", x.least(0, q), can ? 0 : NONE);
                Check.due("NOW " + now + ", q " + q + ", never", x.least(1, q), NONE);
            }
            Check.due("far", x.least(0, Check.MIN), NONE);
            Check.due("far", x.least(0, Check.MAX), NONE);
        }
        // a CHEST of 100 pays 30 three times: up to which QUARTER it is asked matters
        for (int quarter = 0; quarter < 4; quarter++) {
            NoRent x = new NoRent();
            x.estate(100 + 30 * Math.max(quarter - 1, 0), 30);
            if (quarter > 0) {
                x.go(13 * quarter);
            }
            for (int q = 1; q <= 8; q++) {
                Check.due("QUARTER " + quarter + ", the " + q + "th behind it", x.least(0, quarter + q), q < 4 ? NONE : 0);
            }
        }
    }

    private static void leastCantPay() {
        Check.part("IV: LEAST: that its CHEST can't pay the MORTGAGE in some QUARTER");
        // CHEST, MORTGAGE, FAIR of the RENT of 100, q, LEAST
        int[][] rows = {{0, 100, 99, 1, 1}, {0, 100, 100, 1, NONE}, {0, 101, 100, 1, 0}, {0, 99, 99, 1, NONE}, {0, 99, 98, 1, 1},
            {1, 100, 99, 1, NONE}, {1, 100, 99, 2, 1}, {2, 100, 99, 2, NONE}, {7, 100, 99, 8, 1}, {8, 100, 99, 8, NONE}, {0, 0, 0, 8, NONE},
            {10, 105, 100, 2, NONE}, {10, 105, 100, 3, 0}};
        for (int[] row : rows) {
            NoRent x = new NoRent();
            x.estate(row[0], row[1]);
            x.person(0, 0, 0);
            x.field(0, 10, 100, 0);
            Check.text(x, 0, "fair " + row[2]);
            Check.due("CHEST " + row[0] + ", MORTGAGE " + row[1] + ", FAIR " + row[2] + ", q " + row[3], x.least(0, row[3]), row[4]);
        }
    }

    private static void leastOfItsFieldsWithHolders() {
        Check.part("IV: LEAST of an ESTATE that has not FALLEN: of its FIELDS with HOLDERS");
        NoRent x = new NoRent();
        x.estate(0, 200);
        x.estate(0, 200);
        x.person(0, 0, 0);
        x.person(1, 0, 0);
        x.field(0, 10, 100, 0);
        x.field(0, 10, 100, 1);
        x.field(0, 10, 100, NONE);
        x.field(1, 10, 100, 0);
        Check.text(x, 0, "fair 90");
        Check.due("two with HOLDERS: 200 is paid, 190 is not", x.least(0, 1), 1);
        Check.due("of the other ESTATE there is one", x.least(1, 1), 0);
        x.goes(1, 4);
        Check.due("a HOLDER who is not in a HOUSE holds", x.least(0, 1), 1);
        x.take(0, 2, 1);
        Check.due("three: 290 is enough, so 270", x.least(0, 1), NONE);
        Check.due("no such", x.least(2, 1), NONE);
        Check.due("no such", x.least(-1, 1), NONE);
        x.go(14);
        Check.due("FALLEN", x.owner(1, 1), 1);
        Check.due("of one that has FALLEN", x.least(1, 2), NONE);
    }

    private static void leastOfTheGreatestSavings() {
        Check.part("IV: LEAST: for how few");
        // RENTS of 100, FAIR 90, 50, 70: 10, 50, 30 are kept back
        int[][] rows = {{301, 0}, {300, 1}, {251, 1}, {250, 2}, {221, 2}, {220, 3}, {211, 3}, {210, NONE}};
        for (int[] row : rows) {
            for (int turn = 0; turn < 3; turn++) {
                NoRent x = new NoRent();
                x.estate(0, row[0]);
                x.person(0, 0, 0);
                int[] fair = {90, 50, 70};
                for (int f = 0; f < 3; f++) {
                    x.field(0, fair[(f + turn) % 3], 100, 0);
                }
                Check.text(x, 0, "fair worth");
                Check.due("MORTGAGE " + row[0] + ", turned " + turn, x.least(0, 1), row[1]);
            }
        }
        // who has been KEPT is not KEPT again: 50 and nothing are kept back of two
        for (int mortgage = 149; mortgage < 152; mortgage++) {
            NoRent x = new NoRent();
            x.estate(0, mortgage);
            x.person(0, 0, 0);
            x.field(0, 50, 100, 0);
            x.field(0, 100, 100, 0);
            Check.text(x, 0, "fair worth");
            Check.due("MORTGAGE " + mortgage, x.least(0, 1), mortgage == 151 ? 1 : NONE);
        }
        NoRent y = new NoRent();
        y.estate(0, 3900);
        y.person(0, 0, 0);
        for (int f = 0; f < 40; f++) {
            y.field(0, 10, 100, 0);
        }
        Check.text(y, 0, "fair 0");
        Check.due("of forty", y.least(0, 1), 2);
    }

    private static void leastAsFairIsNow() {
        Check.part("IV: LEAST: FAIR, as it is now, is paid each QUARTER then, for the others RENT whole, ARREARS never");
        NoRent x = new NoRent();
        x.estate(0, 100);
        x.person(0, 0, 0);
        x.field(0, 10, 100, 0);
        Check.text(x, 0, "fair 99 if week<13");
        Check.due("as it is NOW", x.least(0, 1), 1);
        x.image(0);
        Check.text(x, 1, "fair 100");
        Check.due("not as it will be", x.least(0, 1), 1);
        x.go(1);
        Check.due("as it is NOW", x.least(0, 1), NONE);
        x.back(0);
        x.go(13);
        Check.due("as it is NOW", x.least(0, 2), NONE);
        NoRent y = Scenes.tenants(1, 0);
        y.estate(0, 100);
        y.field(1, 10, 100, 0);
        y.go(14);
        Check.due("an ARREAR of 100", y.tells(1, 2), 100);
        Check.due("so its ESTATE has FALLEN", y.owner(1, 1), 1);
        NoRent z = new NoRent();
        z.estate(100, 150);
        z.estate(100, 50);
        z.person(0, 0, 0);
        z.field(1, 10, 40, 0);
        z.go(14);
        Check.due("an ARREAR of 40, a CHEST of 50", z.tells(0, 2) + z.owner(1, 0), 90);
        Check.due("with the ARREAR it could pay nine times", z.least(1, 6), NONE);
        Check.due("without it can't in the sixth QUARTER", z.least(1, 7), 0);
    }

    private static void leastNotEvenAll() {
        Check.part("IV: LEAST: NONE, if not even all do");
        NoRent x = Scenes.tenants(3, 0);
        x.estate(0, 150);
        x.person(9, 0, 0);
        x.field(1, 10, 100, 3);
        x.field(1, 10, 100, 3);
        Check.text(x, 0, "fair 75");
        Check.due("150 is still paid", x.least(1, 8), NONE);
        Check.text(x, 0, "fair 74");
        Check.due("with both 148", x.least(1, 1), 2);
        Check.due("no MORTGAGE", x.least(0, 8), NONE);
    }

    private static void nineOffers() {
        Check.part("IV: CLAUSES 0 .. 8 (9 at most), so much each (-1000 .. 1000)");
        NoRent x = new NoRent();
        int[][] bad = {{1001, 0}, {-1001, 0}, {0, 1001}, {0, -1001}, {Check.MIN, 0}, {0, Check.MAX}};
        for (int[] b : bad) {
            Check.due("offer(" + b[0] + ", " + b[1] + ")", x.offer(b[0], b[1]), -1);
        }
        Check.due("none of them is one", x.count(7), 0);
        for (int i = 0; i < 9; i++) {
            Check.due("offer", x.offer(i == 8 ? 1000 : -1000, i == 8 ? 1000 : -1000), i + 1);
        }
        Check.due("full", x.offer(0, 0), -5);
        Check.due("still 9", x.count(7), 9);
        Check.due("the last one", x.agree(1000, 1000), 256);
    }

    private static void atLeast() {
        Check.part("IV: sets that give the league at least L and the owners at least O");
        NoRent x = new NoRent();
        Check.due("of none the empty set", x.agree(0, 0), 0);
        Check.due("of none", x.agree(1, 0), NONE);
        Check.due("of none", x.agree(0, 1), NONE);
        Check.due("of none, below 0", x.agree(-10_000, -10_000), 0);
        x.offer(5, -3);
        x.offer(-2, 9);
        Check.due("as much", x.agree(5, -3), 1);
        Check.due("one more of the league's", x.agree(6, -3), NONE);
        Check.due("one more of the owners'", x.agree(5, -2), NONE);
        Check.due("both", x.agree(3, 6), 3);
        Check.due("both, one more", x.agree(4, 6), NONE);
        Check.due("both, one more", x.agree(3, 7), NONE);
        Check.due("the second", x.agree(-2, 9), 2);
        Check.due("the second, one more", x.agree(-1, 9), NONE);
        for (int i = 0; i < 7; i++) {
            x.offer(1000, 1000);
        }
        Check.due("all seven, and both", x.agree(7003, 7006), 511);
        Check.due("one more", x.agree(7004, 7006), NONE);
        Check.due("one more", x.agree(7003, 7007), NONE);
        Check.due("all seven, and the first", x.agree(7004, 6997), 511 - 2);
        Check.due("more than there is", x.agree(7006, 0), NONE);
        int[] edges = {-10_001, -10_000, 10_000, 10_001};
        for (int edge : edges) {
            boolean can = edge == -10_000;
            Check.due("league " + edge, x.agree(edge, -3), can ? 0 : NONE);
            Check.due("owners " + edge, x.agree(-2, edge), can ? 0 : NONE);
        }
        Check.due("far", x.agree(Check.MIN, 0), NONE);
        Check.due("far", x.agree(0, Check.MIN), NONE);
    }

    private static void fewestThenGreatestThenLowest() {
        Check.part("IV: the one with the fewest CLAUSES, of alike ones the greatest sum to both, then the lowest bits");
        NoRent x = new NoRent();
        int[][] offers = {{3, 3}, {7, 0}, {4, 4}, {0, 8}, {4, 4}, {20, -12}, {2, 2}, {-9, 17}, {9, 9}};
        for (int[] o : offers) {
            x.offer(o[0], o[1]);
        }
        Check.due("none is fewest", x.agree(0, 0), 0);
        Check.due("one: the greatest sum", x.agree(1, 1), 256);
        Check.due("one of three alike in what is at least", x.agree(4, -1), 256);
        Check.due("one alone is beyond", x.agree(20, -12), 32);
        Check.due("two", x.agree(10, 10), 256 + 4);
        Check.due("two: 13 and 13 twice, the lowest bits", x.agree(13, 13), 256 + 4);
        Check.due("three: 17 and 17", x.agree(17, 17), 256 + 16 + 4);
        NoRent y = new NoRent();
        y.offer(2, 2);
        y.offer(0, 4);
        y.offer(4, 0);
        y.offer(1, 3);
        Check.due("of sums alike the lowest bits", y.agree(0, -5), 0);
        Check.due("of sums alike the lowest bits", y.agree(0, 2), 1);
        Check.due("of sums alike the lowest bits", y.agree(1, 0), 1);
        Check.due("of sums alike the lowest bits", y.agree(2, 4), 3);
        NoRent z = new NoRent();
        z.offer(-5, -5);
        z.offer(-1, -3);
        z.offer(10, -20);
        Check.due("sums below 0", z.agree(-1000, -30), 0);
        Check.due("one below 0", z.agree(1, -30), 4);
        Check.due("two, below 0", z.agree(5, -25), 4);
        Check.due("two, below 0", z.agree(10, -20), 4);
    }

    private static void sixWishes() {
        Check.part("IV: WISHED FIELDS, 6 at most, each with a HOLDER");
        NoRent x = Scenes.tenants(7, 0);
        x.field(0, 1, 1, NONE);
        Check.due("without a HOLDER", x.wish(7), -3);
        for (int f = 0; f < 6; f++) {
            Check.due("wish", x.wish(f), f + 1);
            for (int g = 0; g <= f; g++) {
                Check.due("twice", x.wish(g), -4);
            }
        }
        Check.due("full", x.wish(6), -5);
        Check.due("still 6", x.count(8), 6);
        x.crops(0, 0);
        Check.due("the highest bits", x.judge(63, 1), 0);
        Check.due("beyond them", x.judge(64, 1), NONE);
        Check.due("below 0", x.judge(-1, 1), NONE);
        x.clear();
        Check.due("the seventh now", x.wish(6), 1);
        Check.due("one of those again", x.wish(0), 2);
    }

    private static void threeCrops() {
        Check.part("IV: up to three told CROPS");
        NoRent x = Scenes.tenants(1, 0);
        Check.due("without", x.judge(0, 1), NONE);
        Check.due("without", x.choose(1), NONE);
        int[][] bad = {{-1, 0}, {10_001, 0}, {0, -1}, {0, 10_001}, {Check.MIN, 0}, {0, Check.MAX}};
        for (int[] b : bad) {
            Check.due("crops(" + b[0] + ", " + b[1] + ")", x.crops(b[0], b[1]), -1);
        }
        Check.due("still without", x.judge(0, 1), NONE);
        Check.due("edges", x.crops(0, 10_000), 1);
        Check.due("edges", x.crops(10_000, 0), 2);
        Check.due("the same twice", x.crops(10_000, 0), 3);
        Check.due("full", x.crops(1, 1), -5);
        Check.due("with them", x.judge(0, 1), 0);
        Check.due("clear: no WISHES", x.clear(), 0);
        Check.due("but the CROPS are none", x.judge(0, 1), NONE);
        Check.due("anew", x.crops(1, 1), 1);
    }

    private static void weeksOnPaper() {
        Check.part("IV: for n WEEKS (1 .. 104, not beyond 399)");
        NoRent x = Scenes.tenants(1, 0);
        x.crops(0, 0);
        int[] n = {Check.MIN, -1, 0, 1, 104, 105, Check.MAX};
        for (int i = 0; i < n.length; i++) {
            boolean can = i == 3 || i == 4;
            int due = i == 4 ? 1 : 0;
            Check.due("judge for " + n[i], x.judge(0, n[i]), can ? due : NONE);
            Check.due("choose for " + n[i], x.choose(n[i]), can ? due : NONE);
            Check.tape(x, "ban");
            Check.due("beside for " + n[i], x.beside(n[i]), can ? 0 : NOTHING);
        }
        x.go(104);
        x.go(104);
        x.go(104);
        n = new int[] {86, 87, 88, 104};
        for (int i = 0; i < n.length; i++) {
            Check.due("from 312 on: judge for " + n[i], x.judge(0, n[i]), i < 2 ? 1 : NONE);
            Check.due("from 312 on: choose for " + n[i], x.choose(n[i]), i < 2 ? 1 : NONE);
            Check.tape(x, "ban");
            Check.due("from 312 on: beside for " + n[i], x.beside(n[i]), i < 2 ? 0 : NOTHING);
        }
        x.go(86);
        Check.due("from 398 on", x.judge(0, 1), 0);
        x.go(1);
        Check.due("from 399 on", x.judge(0, 1), NONE);
    }

    private static void paysRentOrKeeps() {
        Check.part("IV: each pays RENT (0) or KEEPS (1) whatever the TEXTS tell");
        for (int told = 0; told < 2; told++) {
            NoRent x = Scenes.tenants(2, 60);
            Check.text(x, 0, (told == 1 ? "keep;" : "") + "fair 60");
            x.wish(0);
            x.crops(0, 0);
            // who KEEPS pays 60, and is put OUT for the other 40; with 60 pence nobody pays 100
            Check.due("told " + told + ": FIELD 0 as chosen, FIELD 1 as told", x.judge(0, 30), 2);
            Check.due("told " + told + ": both", x.judge(1, 30), 2);
            NoRent y = Scenes.tenants(2, 100);
            Check.text(y, 0, (told == 1 ? "keep;" : "") + "fair 60");
            y.wish(0);
            y.crops(0, 0);
            Check.due("told " + told + ": FIELD 0 pays", y.judge(0, 30), told);
            Check.due("told " + told + ": FIELD 0 KEEPS", y.judge(1, 30), told + 1);
        }
        // the ARREAR is asked as well: 200 in all
        int[] coin = {199, 200};
        for (int c : coin) {
            NoRent x = Scenes.tenants(1, 0);
            x.go(14);
            x.coin(0, c);
            x.wish(0);
            x.crops(0, 0);
            Check.due("RENT and ARREAR of " + c, x.judge(0, 29), c < 200 ? 1 : 0);
        }
    }

    private static void cropsInPlaceOfRowsAndPrices() {
        Check.part("IV: a PRICE in all WEEKS, and SACKS for all FIELDS in the first WEEK of each QUARTER, also WEEK 0, in place of ROWS, PRICES");
        NoRent x = Scenes.tenants(1, 0);
        x.price(0, 100);
        x.price(13, 100);
        Check.row(x, 0, 0, 1000);
        Check.row(x, 13, 0, 1000);
        x.wish(0);
        x.crops(1, 49);
        Check.due("2 * 49 of 1", x.judge(0, 30), 1);
        x.clear();
        x.wish(0);
        x.crops(1, 50);
        Check.due("2 * 50 of 1, of WEEKS 0 and 13", x.judge(0, 30), 0);
        Check.due("150 of 200 up to WEEK 26", x.judge(0, 42), 0);
        Check.due("so put OUT in WEEK 42", x.judge(0, 43), 1);
        // from WEEK 1 on there is that of WEEK 13 alone, in time for its RENT
        x.go(1);
        Check.due("50 and the 1000 that came", x.of(0, 2), 1000);
        NoRent y = Scenes.tenants(1, 0);
        y.go(1);
        y.wish(0);
        y.crops(1, 99);
        Check.due("99", y.judge(0, 29), 1);
        y.clear();
        y.wish(0);
        y.crops(1, 100);
        Check.due("100", y.judge(0, 29), 0);
        Check.due("and of WEEK 26", y.judge(0, 42), 0);
        // nothing in any other WEEK
        NoRent z = Scenes.tenants(1, 0);
        z.go(14);
        z.writ(0);
        z.wish(0);
        z.crops(1, 199);
        Check.due("199 in WEEK 26 are not enough", z.judge(0, 20), 1);
        z.clear();
        z.wish(0);
        z.crops(1, 200);
        Check.due("200 are", z.judge(0, 20), 0);
        // "price" is that of the CROPS
        NoRent p = Scenes.tenants(1, 100);
        Check.text(p, 0, "keep if price=7;fair 0");
        p.crops(6, 0);
        Check.due("it does not KEEP", p.judge(0, 30), 0);
        p.crops(7, 0);
        Check.due("it KEEPS", p.judge(0, 30), 1);
        Check.due("NOW the PRICE is 100", p.tells(0, 4), 0);
    }

    private static void sacksCut() {
        Check.part("IV: SACKS for each 100 of WORTH, cut");
        // WORTH, SACKS, how many that are
        int[][] rows = {{99, 1, 0}, {100, 1, 1}, {101, 1, 1}, {199, 1, 1}, {200, 1, 2}, {1, 99, 0}, {1, 100, 1}, {33, 10, 3}, {1000, 10_000, 100_000},
            {999, 10_000, 99_900}, {67, 50, 33}};
        for (int[] row : rows) {
            for (int more = 0; more < 2; more++) {
                NoRent x = new NoRent();
                x.estate(0, 0);
                x.person(0, 0, 0);
                x.field(0, row[0], Math.min(100_000, row[2] + more), 0);
                x.go(1);
                x.crops(1, row[1]);
                boolean enough = row[2] + more <= 100_000 && more == 1;
                Check.due("WORTH " + row[0] + ", " + row[1] + ", a RENT of " + (row[2] + more), x.judge(0, 29), enough ? 1 : 0);
            }
        }
    }

    private static void comesUnderAWrit() {
        Check.part("IV: each FIELD with a HOLDER and an ARREAR comes under one behind (2) in each QUARTER's first WEEK (not WEEK 0)");
        NoRent x = Scenes.tenants(1, 99);
        x.field(0, 10, 0, 0);
        x.crops(0, 0);
        // told in WEEK 13 with one penny owed, 16 WEEKS: put OUT in WEEK 29
        Check.due("29 WEEKS", x.judge(0, 29), 0);
        Check.due("30 WEEKS", x.judge(0, 30), 1);
        Check.due("the other FIELD owes nothing", x.judge(0, 104), 1);
        // not in other WEEKS: an ARREAR of WEEK 13 waits for WEEK 26
        NoRent y = Scenes.tenants(1, 0);
        y.go(14);
        y.goes(0, 2);
        y.crops(0, 0);
        Check.due("up to WEEK 41", y.judge(0, 28), 0);
        Check.due("in WEEK 42, also of who is HELD", y.judge(0, 29), 1);
        // the WEEK NOW itself
        NoRent z = Scenes.tenants(1, 0);
        z.go(13);
        z.crops(0, 0);
        Check.due("told in WEEK 13", z.judge(0, 16), 0);
        Check.due("told in WEEK 13", z.judge(0, 17), 1);
        Check.due("no WRIT was told", z.count(5), 0);
        z.go(1);
        Check.due("nor is in WEEKS that go by", z.tells(0, 5), NONE);
        // paid in that WEEK
        NoRent paid = Scenes.tenants(1, 200);
        paid.crops(0, 0);
        Check.due("nothing owed behind (2)", paid.judge(0, 39), 0);
        // a FIELD that was lost has an ARREAR, but no HOLDER
        NoRent lost = Scenes.putOut(1, "");
        lost.crops(0, 0);
        Check.due("nobody is put OUT again", lost.judge(0, 104), 0);
    }

    private static void toldInThatWeek() {
        Check.part("IV: (told in that WEEK)");
        NoRent x = Scenes.tenants(1, 0);
        Check.text(x, 0, "step 0 3;step 1 1;step 2 1;step 3 1");
        x.crops(0, 0);
        // told in 13, 3 WEEKS: 14, 15, 16; then 17, 18, 19
        Check.due("not up to WEEK 18", x.judge(0, 19), 0);
        Check.due("in WEEK 19", x.judge(0, 20), 1);
        Check.text(x, 13, "step 0 2");
        Check.due("with the WEEKS as in force then", x.judge(0, 18), 0);
        Check.due("with the WEEKS as in force then", x.judge(0, 19), 1);
        x.guard(0, 13, 14);
        Check.due("GUARDED in 13 and 14: one WEEK later", x.judge(0, 19), 0);
        Check.due("GUARDED in 13 and 14: one WEEK later", x.judge(0, 20), 1);
    }

    /** WRIT by WRIT, one for each FIELD: room for the second FIELD's is there only if the first takes no second one. */
    private static void notUnderAWrit() {
        Check.part("IV: not under a WRIT");
        NoRent x = Scenes.tenants(2, 0);
        x.coin(1, 100);
        Check.text(x, 0, "step 0 30");
        x.go(14);
        x.writ(0);
        for (int i = 0; i < 58; i++) {
            x.avoid(0);
            x.writ(0);
        }
        Check.due("one more has room", x.count(5), 59);
        Check.due("FIELD 1 owes nothing yet", x.tells(1, 2), 0);
        x.crops(0, 0);
        // FIELD 0 is under one, told in 14: put OUT in 14 + 42; FIELD 1's is told in 26: put OUT in 26 + 42
        Check.due("the first", x.judge(0, 42), 0);
        Check.due("the first", x.judge(0, 43), 1);
        Check.due("the second", x.judge(0, 54), 1);
        Check.due("the second", x.judge(0, 55), 2);
    }

    private static void ifThereIsRoom() {
        Check.part("IV: if there is room");
        for (int told = 58; told <= 60; told++) {
            NoRent x = Scenes.tenants(3, 0);
            x.go(14);
            for (int i = 0; i < told; i++) {
                x.writ(0);
                x.avoid(0);
            }
            x.crops(0, 0);
            Check.due(told + " were told", x.judge(0, 40), 60 - told);
            Check.due("none more is told", x.count(5), told);
        }
        // FIELD by FIELD; what owes nothing takes no room
        for (int pays = 0; pays < 3; pays++) {
            NoRent x = Scenes.tenants(3, 0);
            x.go(14);
            for (int i = 0; i < 59; i++) {
                x.writ(2);
                x.avoid(2);
            }
            for (int f = 0; f < pays; f++) {
                x.coin(f, 200);
            }
            x.crops(0, 0);
            Check.due("there is room for one, " + pays + " pay", x.judge(0, 60), 1);
            x.guard(pays, 26, 399);
            Check.due("it is GUARDED, " + pays + " pay", x.judge(0, 60), 0);
        }
    }

    private static void worstOfTheCrops() {
        Check.part("IV: WORST: how often HOLDERS are put OUT, the most over the CROPS told");
        for (int place = 0; place < 3; place++) {
            NoRent x = Scenes.tenants(3, 0);
            x.coin(0, 100);
            for (int i = 0; i < 3; i++) {
                x.crops(i == place ? 0 : 10, i == place ? 0 : 10 - i % 2);
            }
            Check.due("the bad CROPS told at " + place, x.judge(0, 30), 2);
            Check.due("alike", x.choose(30), 2);
        }
        NoRent y = Scenes.tenants(3, 0);
        y.crops(10, 5);
        Check.due("good CROPS", y.judge(0, 30), 0);
        y.crops(10, 4);
        Check.due("and worse ones", y.judge(0, 30), 3);
        // a HOLDER of two FIELDS is put OUT twice
        NoRent z = Scenes.tenants(1, 0);
        z.field(0, 10, 5, 0);
        z.crops(0, 0);
        Check.due("twice", z.judge(0, 30), 2);
    }

    private static void allArePutOut() {
        Check.part("IV: WORST, BEST: as many as there are FIELDS");
        NoRent x = Scenes.tenants(40, 0);
        for (int f = 0; f < 6; f++) {
            x.wish(f);
        }
        x.crops(0, 0);
        Check.due("judged", x.judge(0, 30), 40);
        Check.due("judged", x.judge(63, 30), 40);
        Check.due("chosen", x.choose(30), 40);
        for (int w = 0; w < 6; w++) {
            Check.due("fewest KEEPING", x.chosen(w), 0);
        }
        // one in each WEEK from 29 on
        for (int f = 1; f < 40; f++) {
            x.guard(f, 14, 13 + f);
        }
        for (int n = 1; n <= 40; n++) {
            Check.due("judged for " + (29 + n), x.judge(0, 29 + n), n);
        }
        Check.due("chosen", x.choose(69), 40);
    }

    private static void bestRow() {
        Check.part("IV: BEST: the least WORST; of alike ones that with the fewest KEEPING; then the first as rows");
        // FIELDS of one HOLDER: who KEEPS for one that is GUARDED saves pence for those that are not
        NoRent x = new NoRent();
        x.estate(0, 0);
        x.person(0, 100, 0);
        for (int f = 0; f < 3; f++) {
            x.field(0, 10, f == 2 ? 100 : 50, 0);
        }
        Check.text(x, 0, "fair 0");
        x.guard(0, 0, 399);
        x.guard(1, 0, 399);
        x.wish(0);
        x.wish(1);
        x.wish(2);
        x.crops(0, 0);
        Check.due("nobody KEEPS", x.judge(0, 30), 1);
        Check.due("one does", x.judge(1, 30), 1);
        Check.due("one does", x.judge(2, 30), 1);
        Check.due("both do", x.judge(3, 30), 0);
        Check.due("all do", x.judge(7, 30), 1);
        Check.due("the least WORST", x.choose(30), 0);
        choiceIs(x, 1, 1, 0);
        // in fewer WEEKS nobody is put OUT
        Check.due("the fewest KEEPING", x.choose(29), 0);
        choiceIs(x, 0, 0, 0);
        // pence, which FIELDS are GUARDED as bits; then WORST, and the row
        int[][] rows = {{200, 3, 0, 0, 1, 0}, {200, 6, 0, 0, 0, 0}, {200, 5, 0, 0, 0, 0}, {100, 3, 0, 1, 1, 0}, {100, 5, 0, 1, 0, 0},
            {100, 6, 0, 0, 0, 0}, {200, 1, 0, 1, 0, 0}, {200, 2, 0, 0, 1, 0}, {200, 4, 0, 0, 0, 0}, {300, 0, 0, 0, 0, 0}, {200, 0, 1, 0, 0, 0},
            {0, 0, 3, 0, 0, 0}, {100, 1, 1, 1, 0, 0}, {50, 2, 2, 0, 0, 0}};
        for (int[] row : rows) {
            NoRent y = threeOfOne(row[0], row[1]);
            for (int f = 0; f < 3; f++) {
                y.wish(f);
            }
            Check.due(row[0] + " pence, GUARDED " + row[1], y.choose(30), row[2]);
            choiceIs(y, row[3], row[4], row[5]);
        }
        NoRent z = threeOfOne(200, 3);
        for (int f = 2; f >= 0; f--) {
            z.wish(f);
        }
        Check.due("WISHES the other way round", z.choose(30), 0);
        choiceIs(z, 0, 0, 1);
    }

    private static NoRent threeOfOne(int pence, int guarded) {
        NoRent x = new NoRent();
        x.estate(0, 0);
        x.person(0, pence, 0);
        for (int f = 0; f < 3; f++) {
            x.field(0, 10, 100, 0);
            if ((guarded >> f & 1) == 1) {
                x.guard(f, 0, 399);
            }
        }
        Check.text(x, 0, "fair 0");
        x.crops(0, 0);
        return x;
    }

    private static void choiceIs(NoRent x, int a, int b, int c) {
        int[] due = {a, b, c};
        for (int w = 0; w < 3; w++) {
            Check.due("choice of WISH " + w, x.chosen(w), due[w]);
        }
        Check.due("no WISH 3", x.chosen(3), NONE);
        Check.due("no WISH -1", x.chosen(-1), NONE);
    }

    private static void onPaper() {
        Check.part("IV: on paper");
        NoRent x = Scenes.tenants(2, 150);
        Check.text(x, 0, Scenes.QUICK + ";draw 1;ban;keep;fair 50");
        x.give(99);
        Check.row(x, 3, 0, 7, 7);
        x.wish(0);
        x.crops(3, 3);
        int[] before = everything(x);
        x.judge(1, 104);
        x.choose(104);
        Check.tape(x, "strike 0 clause 6");
        x.beside(104);
        int[] behind = everything(x);
        for (int i = 0; i < before.length; i++) {
            Check.due("answer " + i + " as it was", behind[i], before[i]);
        }
    }

    private static int[] everything(NoRent x) {
        int[] all = new int[40];
        int n = 0;
        for (int p = 0; p < 2; p++) {
            for (int what = 0; what < 6; what++) {
                all[n++] = x.of(p, what);
            }
            for (int what = 0; what < 8; what++) {
                all[n++] = x.tells(p, what);
            }
        }
        for (int what = 0; what < 9; what++) {
            all[n++] = x.count(what);
        }
        all[n++] = x.fund();
        all[n++] = x.owner(0, 0);
        all[n] = x.owner(0, 1);
        return all;
    }

    private static void tried() {
        Check.part("IV: TRIED: a TEXT told besides, from NOW on");
        NoRent x = Scenes.tenants(1, 1000);
        String[] texts = {"keep;fair 30", "keep;fair 0", "keep", "fair 0", "keep if week=13;fair 99", "keep if week=14;fair 0", "draw 5"};
        int[] more = {-70, -100, 0, 0, -1, 0, 0};
        for (int i = 0; i < texts.length; i++) {
            Check.tape(x, texts[i]);
            Check.due("TRIED " + texts[i], x.beside(14), more[i]);
            Check.due("the TAPE is empty", x.count(9), 0);
            Check.due("no TEXT more", x.count(4), 0);
        }
        x.go(5);
        Check.text(x, 0, "keep;fair 10");
        Check.tape(x, "strike 0 clause 0");
        Check.due("a strike", x.beside(9), 90);
        Check.tape(x, "strike 1 clause 0;strike 0 clause 1;keep");
        Check.due("it can't strike itself", x.beside(9), 90);
        Check.tape(x, "fair 40");
        Check.due("told last", x.beside(9), 30);
    }

    private static void triedWeeks() {
        Check.part("IV: TRIED: for n WEEKS");
        NoRent x = Scenes.tenants(1, 1000);
        int[] weeks = {1, 13, 14, 26, 27, 39, 40, 104};
        int[] more = {0, 0, -70, -70, -140, -140, -210, -490};
        for (int i = 0; i < weeks.length; i++) {
            Check.tape(x, "keep;fair 30");
            Check.due("for " + weeks[i], x.beside(weeks[i]), more[i]);
        }
        x.go(13);
        Check.tape(x, "keep;fair 30");
        Check.due("NOW is a QUARTER's first WEEK", x.beside(1), -70);
        x.go(1);
        Check.tape(x, "keep;fair 30");
        Check.due("it has gone by", x.beside(12), 0);
    }

    private static void triedAllElseAsItIs() {
        Check.part("IV: TRIED: all else as it is");
        // ROWS and PRICES, not CROPS; no WRITS but those told; no choices of a WISH
        NoRent x = Scenes.tenants(1, 0);
        x.price(13, 10);
        Check.row(x, 13, 0, 7);
        x.wish(0);
        x.crops(10_000, 10_000);
        x.judge(1, 20);
        Check.tape(x, "keep;fair 30");
        Check.due("70 by the ROW, or 30", x.beside(14), -40);
        x.judge(0, 104);
        Check.tape(x, "keep;fair 20");
        Check.due("70 by the ROW, or 20", x.beside(14), -50);
        x.judge(1, 104);
        Check.tape(x, "ban");
        Check.due("alike", x.beside(104), 0);
        NoRent y = Scenes.tenants(1, 0);
        y.go(14);
        y.coin(0, 1000);
        Check.tape(y, Scenes.QUICK);
        Check.due("no WRIT by itself", y.beside(13), 0);
        y.writ(0);
        Check.tape(y, Scenes.QUICK);
        Check.due("one that was told goes on: its STEP 0 has 4 WEEKS, then 1, 1, 1", y.beside(13), -200);
        y.guard(0, 19, 26);
        Check.tape(y, Scenes.QUICK);
        Check.due("GUARDED", y.beside(13), 0);
    }

    private static void triedAsksBanned() {
        Check.part("IV: TRIED: who is BANNED on paper");
        NoRent x = Scenes.tenants(2, 1000);
        Check.text(x, 0, "ban if house=0 and week>10");
        Check.tape(x, "keep if banned;fair 30");
        Check.due("BANNED in WEEK 11, so it KEEPS in WEEK 13", x.beside(14), -70);
        Check.tape(x, "keep if not banned;fair 30");
        Check.due("the other is not", x.beside(14), -70);
        Check.tape(x, "strike 0 clause 0;ban;keep if banned;fair 30");
        Check.due("both", x.beside(14), -140);
        Check.text(x, 0, "keep if banned;fair 30");
        Check.tape(x, "ban");
        Check.due("as a TEXT told asks", x.beside(14), -70);
        Check.due("nobody is BANNED", x.of(0, 3) + x.of(1, 3), 0);
        // CHOICES ask it as well
        NoRent y = Scenes.tenants(2, 100);
        Check.text(y, 0, "ban if house=0;fair 0;keep if banned");
        y.crops(0, 0);
        Check.due("PERSON 0 KEEPS", y.judge(0, 30), 1);
    }

    private static void triedPenceThatChestsGet() {
        Check.part("IV: TRIED: pence that CHESTS get more (or less) than without it");
        NoRent x = new NoRent();
        x.estate(0, 1000);
        x.estate(0, 0);
        x.person(0, 1000, 0);
        x.field(0, 10, 100, 0);
        x.field(1, 10, 50, 0);
        Check.tape(x, "keep;fair 30");
        Check.due("of both ESTATES, whatever is left behind the MORTGAGE", x.beside(14), -90);
        x.go(14);
        Check.due("FALLEN", x.owner(0, 1), 1);
        Check.tape(x, "keep;fair 30");
        Check.due("FALLEN ones get as well", x.beside(13), -90);
    }

    private static void sealed() {
        Check.part("IV: SEALED: two sums: of all, and of all times their place from 1 on");
        NoRent x = new NoRent();
        Check.due("nothing is SEALED", x.found(), -3);
        Check.due("no FIELDS", x.seal(), 0);
        Check.due("as it was", x.found(), NONE);
        x.estate(0, 0);
        for (int f = 0; f < 40; f++) {
            x.field(0, 1, 100_000, NONE);
        }
        Check.due("forty", x.seal(), 40);
        Check.due("as it was", x.found(), NONE);
        for (int f = 0; f < 40; f++) {
            x.alter(f, 1 + f * 6);
            Check.due("FIELD " + f, x.found(), f);
            x.alter(f, 1 + f * 6);
            Check.due("put right", x.found(), NONE);
        }
        x.alter(7, 3);
        Check.due("SEALED anew", x.seal(), 40);
        Check.due("as it is now", x.found(), NONE);
        x.alter(7, 3);
        Check.due("as it was ahead of that", x.found(), 7);
    }

    private static void altered() {
        Check.part("IV: ALTERED: a FIELD's RENT becomes it with a mask's bits turned over (1 .. 255)");
        int[] bad = {0, 256, -1, Check.MIN, Check.MAX};
        int[] masks = {1, 2, 128, 254, 255};
        int[] rents = {0, 1, 255, 256, 100_000};
        for (int rent : rents) {
            NoRent x = new NoRent();
            x.estate(0, 0);
            x.field(0, 1, rent, NONE);
            for (int mask : bad) {
                Check.due("by " + mask, x.alter(0, mask), -1);
                Check.due("status", x.status(), -1);
                Check.due("as it was", x.tells(0, 1), rent);
            }
            for (int mask : masks) {
                Check.due(rent + " by " + mask, x.alter(0, mask), rent ^ mask);
                Check.due("status", x.status(), 0);
                Check.due("RENT", x.tells(0, 1), rent ^ mask);
                Check.due("back", x.alter(0, mask), rent);
            }
            Check.due("no such", x.alter(1, 1), -2);
            Check.due("status", x.status(), -2);
        }
        NoRent y = Scenes.tenants(1, 1000);
        y.alter(0, 28);
        y.go(14);
        Check.due("the RENT asked is that of NOW", y.owner(0, 0), 120);
    }

    private static void found() {
        Check.part("IV: FOUND: the FIELD whose RENT, put right by what the first is off, sets both right; -2 there is none such");
        NoRent x = fields(6);
        alterAll(x, 0, 1, 4, 1);
        Check.due("two, as one between them: off by 2, 6 in all", x.found(), 2);
        alterAll(x, 0, 1, 4, 1);
        alterAll(x, 0, 1, 3, 1);
        Check.due("two, as none: off by 2, 5 in all", x.found(), -2);
        alterAll(x, 0, 1, 3, 1);
        Check.due("put right", x.found(), NONE);
        alterAll(x, 4, 1, 5, 1);
        Check.due("off by 2, 11 in all", x.found(), -2);
        NoRent y = fields(2);
        alterAll(y, 0, 8, 1, 1);
        Check.due("off by 7, 8 + 2 - 2: none between", y.found(), -2);
    }

    private static void foundByTheSecondSum() {
        Check.part("IV: FOUND: NONE, if both sums are as they were");
        // +4 and -4: the first sum is as it was, the second is not
        NoRent x = fields(3);
        x.alter(1, 4);
        x.seal();
        alterAll(x, 1, 4, 2, 4);
        Check.due("the first alone is as it was", x.found(), -2);
        // +2 at place 1, -1 at place 2: the second sum is as it was, the first is not
        NoRent y = fields(3);
        y.alter(1, 1);
        y.seal();
        alterAll(y, 0, 2, 1, 1);
        Check.due("the second alone is as it was", y.found(), -2);
        // +1, -2, +1 at places 1, 2, 3: both are as they were
        NoRent z = fields(3);
        z.alter(1, 2);
        z.seal();
        alterAll(z, 0, 1, 1, 2);
        z.alter(2, 1);
        Check.due("both are as they were", z.found(), NONE);
    }

    private static NoRent fields(int n) {
        NoRent x = new NoRent();
        x.estate(0, 0);
        for (int f = 0; f < n; f++) {
            x.field(0, 1, 0, NONE);
        }
        x.seal();
        return x;
    }

    private static void alterAll(NoRent x, int a, int mask, int b, int other) {
        x.alter(a, mask);
        x.alter(b, other);
    }

    private static void moreFieldsThanThen() {
        Check.part("IV: FOUND: -2, if there are more FIELDS than then");
        NoRent x = fields(3);
        x.image(0);
        x.field(0, 1, 5, NONE);
        Check.due("more", x.found(), -2);
        x.alter(0, 1);
        Check.due("more, and one is ALTERED", x.found(), -2);
        x.back(0);
        Check.due("as many again", x.found(), NONE);
        x.alter(0, 1);
        Check.due("one is ALTERED", x.found(), 0);
        NoRent y = new NoRent();
        y.estate(0, 0);
        y.seal();
        y.field(0, 1, 5, NONE);
        Check.due("more than none", y.found(), -2);
        Check.due("SEALED anew", y.seal(), 1);
        Check.due("as many", y.found(), NONE);
    }

    /** Two counties, told into one object one after the other; each is asked for again by BACK. */
    private static void imagesKeepAll() {
        Check.part("IV: IMAGES 0, 1 keep all; BACK to one all is as it was then");
        for (int later = 0; later < 2; later++) {
            NoRent x = new NoRent();
            x.image(0);
            tellCounty(x, 0);
            x.image(1);
            int[] first = answers(x, later);
            x.back(0);
            tellCounty(x, 1);
            x.image(0);
            int[] second = answers(x, later);
            x.back(1);
            same("BACK to IMAGE 1, " + later, answers(x, later), first);
            x.back(0);
            same("BACK to IMAGE 0, " + later, answers(x, later), second);
            int different = 0;
            for (int i = 0; i < first.length; i++) {
                different += first[i] == second[i] ? 0 : 1;
            }
            Check.due("they are different enough: " + different, different > 20);
        }
    }

    private static void same(String what, int[] are, int[] were) {
        for (int i = 0; i < were.length; i++) {
            Check.due(what + ", answer " + i, are[i], were[i]);
        }
    }

    /** Everything that can be told, one way or another. */
    private static void tellCounty(NoRent x, int k) {
        x.estate(1000 + k, 5 + k);
        x.estate(3 * k, 7);
        x.person(3 + k, 10 * k, 60 - 40 * k);
        x.person(7, 20, 35);
        x.person(9 + k, 900 + k, 5 + k);
        x.field(k, 100 + k, 100 + k, 0);
        x.field(1 - k, 50, 60, 1);
        x.field(0, 70, 10, NONE);
        x.heed(2 - k, 2 * k);
        x.price(k, 30 + k);
        Check.row(x, 0, k, 2 + k);
        Check.row(x, 15 + k, 0, 9, 8);
        Check.text(x, k, Scenes.QUICK + ";ban if house=" + (3 + 7 * k) + ";grab;draw " + (1 + k) + ";fair 7");
        Check.text(x, 0, "keep if grabs;step 3 " + (3 + k));
        x.give(40 + k);
        x.brave(40 - 10 * k);
        x.offer(5 + k, 6);
        x.offer(1, 2 * k);
        x.deal(2, 1, 5 + k);
        x.alter(2, 3 + k);
        x.seal();
        x.alter(k, 1);
        x.go(14);
        x.writ(k);
        x.writ(1 - k);
        x.guard(k, 14 + k, 16);
        x.go(10);
        x.goes(0, 0);
        Check.due("GRABBED", x.take(2, k, 0), 0);
        Check.due("GRABBED", x.take(0, 1 - k, 0), 0);
        x.goes(1, k + 1);
        x.go(1 + k);
        x.writ(0);
        x.writ(1);
        // what is still to come, of NOW 25 or 26
        x.guard(k, 26 + 2 * k, 40 - k);
        x.guard(1 - k, 27, 28 + k);
    }

    /** What can be asked as it stands; or, later, of the FIELDS as it goes on from there. */
    private static int[] answers(NoRent x, int later) {
        int[] all = new int[100];
        int n = 0;
        if (later == 1) {
            x.go(3);
            n = landAnswers(x, all, n);
            x.go(13);
            landAnswers(x, all, n);
            return all;
        }
        n = landAnswers(x, all, n);
        for (int p = 0; p < 3; p++) {
            for (int what = 0; what < 6; what++) {
                all[n++] = x.of(p, what);
            }
            all[n++] = x.keeps(p, (p + 1) % 3);
            all[n++] = x.keeps(p, (p + 2) % 3);
        }
        for (int what = 0; what < 8; what++) {
            all[n++] = x.count(what);
        }
        for (int clause = 0; clause < 8; clause++) {
            all[n++] = x.holds(0, clause, 2, 0);
        }
        int[] more = {x.holds(1, 0, 2, 0), x.force(0, 4, 0), x.fund(), x.found(), x.agree(6, 6), x.agree(0, 8), x.last(2, 1, 0)};
        System.arraycopy(more, 0, all, n, more.length);
        return all;
    }

    private static int landAnswers(NoRent x, int[] all, int from) {
        int n = from;
        for (int f = 0; f < 3; f++) {
            for (int what = 0; what < 8; what++) {
                all[n++] = x.tells(f, what);
            }
            all[n++] = x.crop(f, 0);
            all[n++] = x.crop(f, 15);
        }
        all[n++] = x.owner(0, 0);
        all[n++] = x.owner(1, 0);
        all[n++] = x.owner(1, 1);
        return n;
    }

    /** What one county had under WRITS and GUARDED is not what the other has, each under the same numbers. */
    private static void imagesOfWrits() {
        Check.part("IV: BACK to one: WRITS and GUARDS are as they were then");
        for (int k = 0; k < 2; k++) {
            NoRent alone = Scenes.tenants(3, 0);
            alone.go(14);
            tellWrits(alone, k);
            NoRent x = Scenes.tenants(3, 0);
            x.go(14);
            x.image(1);
            tellWrits(x, k);
            x.image(0);
            x.back(1);
            Check.due("no WRITS there", x.count(5), 0);
            tellWrits(x, 1 - k);
            x.go(9);
            x.back(0);
            Check.due("WRITS", x.count(5), k + 1);
            for (int week = 0; week < 20; week++) {
                for (int f = 0; f < 3; f++) {
                    for (int what = 5; what < 7; what++) {
                        Check.due("tells(" + f + ", " + what + ") in WEEK " + week, x.tells(f, what), alone.tells(f, what));
                    }
                    Check.due("HOLDER of " + f + " in WEEK " + week, x.tells(f, 0), alone.tells(f, 0));
                }
                x.go(1);
                alone.go(1);
            }
        }
    }

    private static void tellWrits(NoRent x, int k) {
        if (k == 0) {
            x.writ(0);
            x.guard(0, 16, 17);
        } else {
            x.go(1);
            x.writ(2);
            x.writ(1);
            x.guard(1, 15, 19);
            x.guard(2, 17, 17);
            x.go(6);
        }
    }

    private static void imagesOfWhatWasLost() {
        Check.part("IV: BACK to one: who holds, who was put OUT, who GRABBED, is as it was then");
        NoRent x = Scenes.tenants(2, 0);
        Check.text(x, 0, Scenes.QUICK + ";grab");
        x.go(14);
        x.writ(0);
        x.image(0);
        x.go(5);
        x.image(1);
        x.take(1, 0, 0);
        for (int i = 0; i < 2; i++) {
            x.back(0);
            Check.due("HOLDER", x.tells(0, 0), 0);
            Check.due("nobody was put OUT of it", x.tells(0, 7), 0);
            Check.due("in the HOUSE", x.of(0, 0), 0);
            Check.due("not out", x.of(0, 4), NONE);
            Check.due("under a WRIT", x.tells(0, 5), 0);
            x.back(1);
            Check.due("no HOLDER", x.tells(0, 0), NONE);
            Check.due("somebody was put OUT of it", x.tells(0, 7), 1);
            Check.due("on the ROAD", x.of(0, 0), 1);
            Check.due("out", x.of(0, 4), 18);
            Check.due("under none", x.tells(0, 5), NONE);
            Check.due("may be GRABBED", x.take(1, 0, 0), 0);
        }
    }

    private static void imagesKeepNot() {
        Check.part("IV: all but the TAPE, FAULT, WISHES with their CROPS told, and the latest BEST");
        NoRent x = Scenes.tenants(2, 100);
        x.image(0);
        x.wish(1);
        x.crops(0, 0);
        x.choose(30);
        Check.text(x, 0, "keep oh");
        Check.tape(x, "abcdefg");
        x.coin(0, 5);
        x.back(0);
        Check.due("what an IMAGE keeps", x.of(0, 1), 100);
        Check.due("TAPE", x.count(9), 7);
        Check.due("FAULT", x.fault(), 5);
        Check.due("WISHES", x.count(8), 1);
        Check.due("CROPS", x.judge(0, 30), 0);
        Check.due("the latest BEST", x.chosen(0), 0);
        x.image(1);
        x.clear();
        x.end(0);
        Check.text(x, 0, "keep");
        x.back(1);
        Check.due("TAPE", x.count(9), 0);
        Check.due("FAULT", x.fault(), NONE);
        Check.due("WISHES", x.count(8), 0);
        Check.due("CROPS", x.judge(0, 30), NONE);
        Check.due("TEXTS", x.count(4), 0);
    }

    private static void imagesStay() {
        Check.part("IV: (IMAGES stay)");
        NoRent x = Scenes.tenants(1, 0);
        Check.due("none yet", x.back(0), -2);
        Check.due("none yet", x.back(1), -2);
        Check.due("kept", x.image(0), 0);
        Check.due("the other is none", x.back(1), -2);
        x.coin(0, 1);
        Check.due("kept", x.image(1), 0);
        for (int i = 0; i < 3; i++) {
            x.coin(0, 7);
            Check.due("to 0", x.back(0), 0);
            Check.due("to 0", x.of(0, 1), 0);
            x.coin(0, 9);
            Check.due("to 1", x.back(1), 0);
            Check.due("to 1", x.of(0, 1), 1);
        }
        x.coin(0, 3);
        x.image(0);
        Check.due("kept anew", x.back(0), 0);
        Check.due("kept anew", x.of(0, 1), 4);
        x.back(1);
        Check.due("the other as it was", x.of(0, 1), 1);
        int[] bad = {-1, 2, Check.MIN, Check.MAX};
        for (int k : bad) {
            Check.due("image(" + k + ")", x.image(k), -1);
            Check.due("back(" + k + ")", x.back(k), -1);
        }
        Check.due("as it was", x.of(0, 1), 1);
    }

    /** What was told, and is gone by BACK, is in nothing that is told anew. */
    private static void newBehindBack() {
        Check.part("IV: BACK to one all is as it was then: nothing");
        NoRent x = new NoRent();
        x.image(0);
        x.estate(0, 50);
        for (int i = 0; i < 3; i++) {
            x.person(i, 0, 90);
            x.field(0, 100, 100, i);
        }
        x.heed(0, 1);
        Check.text(x, 0, Scenes.QUICK + ";grab;ban");
        Check.row(x, 0, 0, 3, 3, 3);
        Check.row(x, 1, 0, 3, 3, 3);
        x.price(0, 1);
        x.brave(0);
        x.give(50);
        x.offer(1, 1);
        x.seal();
        x.go(14);
        x.writ(0);
        x.writ(1);
        x.guard(1, 0, 399);
        x.go(5);
        x.take(2, 0, 0);
        x.back(0);
        for (int what = 0; what < 8; what++) {
            Check.due("count(" + what + ")", x.count(what), 0);
        }
        Check.due("fund", x.fund(), 0);
        Check.due("found", x.found(), -3);
        Check.due("brave", x.brave(50), 50);
        x.estate(0, 0);
        for (int i = 0; i < 3; i++) {
            x.person(i, 0, 10);
            x.field(0, 100, 100, i);
        }
        for (int i = 0; i < 3; i++) {
            int[] of = {0, 0, 0, 0, NONE, 0};
            int[] tells = {i, 100, 0, 100, 0, NONE, NONE, 0};
            for (int what = 0; what < 6; what++) {
                Check.due("of(" + i + ", " + what + ")", x.of(i, what), of[what]);
            }
            for (int what = 0; what < 8; what++) {
                Check.due("tells(" + i + ", " + what + ")", x.tells(i, what), tells[what]);
            }
            Check.due("crop", x.crop(i, 0), NONE);
            Check.due("crop", x.crop(i, 1), NONE);
            Check.due("heeds nobody", x.keeps(i, (i + 1) % 3), 0);
        }
        Check.due("nothing GRABBED", Scenes.asks(x, "grabs", 2, 0), 0);
        Check.due("PRICE", Scenes.asks(x, "price=100", NONE, NONE), 1);
        Check.due("a ROW of WEEK 0", Check.row(x, 0, 0, 0, 0, 0), 3);
        Check.due("a ROW of WEEK 1", Check.row(x, 1, 0, 0), 1);
        x.go(14);
        Check.due("not FALLEN", x.owner(0, 1), NONE);
        Check.due("WRITS from the first on", x.writ(1), 1);
        x.go(2);
        Check.due("not GUARDED", x.tells(1, 6), 3);
        Check.due("at STEP 0", x.tells(1, 5), 0);
    }
}
