/** Terms III, sentence by sentence: a WEEK that goes by, GRAB, LET, DEALS, who KEEPS THE BAN. */
public final class TermsThreeTest {
    private static final int NONE = NoRent.NONE;

    public static void main(String[] args) {
        cropsAreItsHolders();
        notInWeekZero();
        soldAsManyAsNeeded();
        cropsOfThisWeekAreSold();
        payingFair();
        rentAndArrearAreAsked();
        ofOthersNothingIsAsked();
        fieldByField();
        paidToItsChest();
        chestPaysTheMortgage();
        fallenOnce();
        fallenInTheLastQuarter();
        sixtyWritsInAll();
        notInTheWeekInWhichItWasTold();
        notWhileGuarded();
        endedWithoutArrear();
        theNextStepBegins();
        writsAtOnce();
        putOut();
        putOutOfOneOfTwo();
        putOutWhoIsNotInTheHouse();
        aVoidWritEnds();
        whatIsLostHasNoWrit();
        outAndOnTheRoad();
        theSumOfAllDraws();
        ifTheFundHasAsMuch();
        personByPerson();
        drawnInTheWeekOfIt();
        bannedFromTheEndOfThisWeek();
        bannedAheadCount();
        bannedForNoField();
        grabAndLet();
        aGrabMustHold();
        outNoMore();
        grabbedAsLongAsItHolds();
        twoHundredDeals();
        dealsThatCantBe();
        dealsWithTheBanned();
        keepsTheBan();
        ofWhomOneHeeds();
        noneOfTheSameHouse();
        Check.close();
    }

    private static void cropsAreItsHolders() {
        Check.part("III (1): each FIELD's SACKS are its HOLDER's (none: lost)");
        NoRent x = Scenes.tenants(2, 0);
        x.field(0, 50, 0, NONE);
        x.field(0, 50, 0, 1);
        Check.row(x, 0, 0, 3, 4, 100, 8);
        Check.row(x, 1, 2, 100, 10);
        x.go(1);
        Check.due("of WEEK 0", x.of(0, 2), 3);
        Check.due("of two FIELDS", x.of(1, 2), 4 + 4);
        for (int state = 1; state < 5; state++) {
            x.goes(1, state);
        }
        x.go(1);
        Check.due("nothing of that ROW", x.of(0, 2), 3);
        Check.due("the DEAD one's", x.of(1, 2), 8 + 5);
        x.take(0, 2, 1);
        x.go(1);
        Check.due("what was lost stays so", x.of(0, 2), 3);
    }

    private static void notInWeekZero() {
        Check.part("III (2): in a QUARTER's first WEEK, but not in WEEK 0");
        NoRent x = Scenes.tenants(1, 250);
        x.estate(5, 9);
        x.go(1);
        Check.due("no RENT", x.owner(0, 0), 0);
        Check.due("no MORTGAGE", x.owner(1, 0), 5);
        Check.due("not FALLEN", x.owner(1, 1), NONE);
        x.go(12);
        Check.due("none up to WEEK 12", x.of(0, 1), 250);
        x.go(1);
        Check.due("in WEEK 13", x.of(0, 1), 150);
        Check.due("FALLEN in WEEK 13", x.owner(1, 1), 1);
        x.go(12);
        Check.due("none up to WEEK 25", x.of(0, 1), 150);
        x.go(1);
        Check.due("in WEEK 26", x.of(0, 1), 50);
    }

    /** COIN, SACKS, PRICE; then COIN, SACKS, ARREAR, CHEST behind a RENT of 100. */
    private static void soldAsManyAsNeeded() {
        Check.part("III (2): it sells as many SACKS as it needs (pence through PRICE, rounded up; PRICE 0: none), or all");
        int[][] rows = {{100, 5, 10, 0, 5, 0, 100}, {101, 5, 10, 1, 5, 0, 100}, {99, 5, 10, 9, 4, 0, 100}, {90, 5, 10, 0, 4, 0, 100},
            {89, 5, 10, 9, 3, 0, 100}, {91, 5, 10, 1, 4, 0, 100}, {0, 11, 10, 0, 1, 0, 100}, {0, 10, 10, 0, 0, 0, 100},
            {0, 9, 10, 0, 0, 10, 90}, {0, 8, 13, 4, 0, 0, 100}, {0, 9, 13, 4, 1, 0, 100}, {0, 7, 13, 0, 0, 9, 91},
            {50, 9, 0, 0, 9, 50, 50}, {100, 9, 0, 0, 9, 0, 100}, {99, 9, 1, 0, 8, 0, 100}, {98, 1, 1, 0, 0, 1, 99},
            {0, 1, 10_000, 9900, 0, 0, 100}, {99, 1, 10_000, 9999, 0, 0, 100}, {0, 0, 10, 0, 0, 100, 0}, {60, 0, 10, 0, 0, 40, 60}};
        for (int[] row : rows) {
            NoRent x = Scenes.harvest(row[0], row[1], row[2]);
            x.go(14);
            behind(x, row[0] + " pence, " + row[1] + " SACKS of " + row[2], row[3], row[4], row[5], row[6]);
        }
        NoRent y = Scenes.tenants(1, 0);
        Check.row(y, 3, 0, 2);
        y.go(14);
        behind(y, "PRICE 100 without", 0, 1, 0, 100);
    }

    private static void behind(NoRent x, String what, int coin, int sacks, int arrear, int chest) {
        Check.due(what + ": COIN", x.of(0, 1), coin);
        Check.due(what + ": SACKS", x.of(0, 2), sacks);
        Check.due(what + ": ARREAR", x.tells(0, 2), arrear);
        Check.due(what + ": CHEST", x.owner(0, 0), chest);
    }

    private static void cropsOfThisWeekAreSold() {
        Check.part("III (1), (2): crops of this WEEK come first, at the PRICE of NOW");
        NoRent x = Scenes.tenants(1, 0);
        x.price(12, 1);
        x.price(13, 50);
        x.price(14, 1);
        Check.row(x, 13, 0, 3);
        x.go(14);
        behind(x, "WEEK 13", 0, 1, 0, 100);
    }

    private static void payingFair() {
        Check.part("III (2): it would pay FAIR, if it KEEPS, else all that is asked; it pays what it would, or all that it has then");
        int[][] rows = {{60, 0, 0, 0, 40, 60}, {61, 0, 1, 0, 40, 60}, {59, 0, 0, 0, 41, 59}, {0, 7, 0, 1, 40, 60}, {0, 5, 0, 0, 50, 50},
            {100, 2, 40, 2, 40, 60}, {0, 0, 0, 0, 100, 0}};
        for (int[] row : rows) {
            NoRent x = Scenes.harvest(row[0], row[1], 10);
            Check.text(x, 0, "keep;fair 60");
            x.go(14);
            behind(x, row[0] + " pence, " + row[1] + " SACKS", row[2], row[3], row[4], row[5]);
        }
        NoRent nothing = Scenes.harvest(70, 9, 10);
        Check.text(nothing, 0, "keep;fair 0");
        nothing.go(14);
        behind(nothing, "FAIR is 0", 70, 9, 100, 0);
        NoRent not = Scenes.harvest(70, 9, 10);
        Check.text(not, 0, "fair 0");
        not.go(14);
        behind(not, "it does not KEEP", 0, 6, 0, 100);
        NoRent all = Scenes.harvest(70, 9, 10);
        Check.text(all, 0, "keep");
        all.go(14);
        behind(all, "it KEEPS, FAIR is RENT", 0, 6, 0, 100);
    }

    private static void rentAndArrearAreAsked() {
        Check.part("III (2): asked are RENT and ARREAR; ARREAR becomes what was asked less what was paid");
        NoRent x = Scenes.tenants(1, 30);
        x.go(14);
        behind(x, "first", 0, 0, 70, 30);
        x.go(13);
        behind(x, "second", 0, 0, 170, 30);
        x.coin(0, 269);
        x.go(13);
        behind(x, "third", 0, 0, 1, 299);
        x.coin(0, 102);
        x.go(13);
        behind(x, "fourth", 1, 0, 0, 400);
        // who KEEPS is asked for the ARREAR, but would pay FAIR alone
        NoRent y = Scenes.tenants(1, 1000);
        Check.text(y, 0, "keep;fair 60");
        y.go(27);
        behind(y, "KEPT twice", 880, 0, 80, 120);
        y.alter(0, 4);
        Check.due("RENT 96 from NOW on", y.tells(0, 1), 96);
        Check.text(y, 0, "strike 0 clause 0");
        y.go(13);
        behind(y, "KEPT no more", 880 - 176, 0, 0, 120 + 176);
    }

    private static void ofOthersNothingIsAsked() {
        Check.part("III (2): with a HOLDER who is in a HOUSE (of others nothing is asked)");
        for (int state = 0; state < 5; state++) {
            NoRent x = Scenes.tenants(1, 150);
            x.go(14);
            x.goes(0, state);
            x.go(13);
            Check.due("COIN in state " + state, x.of(0, 1), state == 0 ? 0 : 50);
            Check.due("ARREAR in state " + state, x.tells(0, 2), state == 0 ? 50 : 0);
            Check.due("CHEST in state " + state, x.owner(0, 0), state == 0 ? 150 : 100);
        }
        NoRent y = Scenes.tenants(1, 0);
        y.go(14);
        y.goes(0, 2);
        y.go(26);
        Check.due("an ARREAR stays as it is", y.tells(0, 2), 100);
        y.goes(0, 0);
        y.coin(0, 500);
        y.go(13);
        Check.due("in its HOUSE again it pays both", y.of(0, 1), 300);
        NoRent z = new NoRent();
        z.estate(0, 0);
        z.field(0, 10, 100, NONE);
        z.go(14);
        Check.due("nor of a FIELD without HOLDER", z.tells(0, 2), 0);
    }

    private static void fieldByField() {
        Check.part("III (2): FIELD by FIELD");
        NoRent x = new NoRent();
        x.estate(0, 0);
        x.person(0, 130, 0);
        x.field(0, 10, 100, 0);
        x.field(0, 10, 50, 0);
        x.field(0, 10, 20, 0);
        x.go(14);
        int[] arrear = {0, 20, 20};
        for (int f = 0; f < 3; f++) {
            Check.due("FIELD " + f, x.tells(f, 2), arrear[f]);
        }
    }

    private static void paidToItsChest() {
        Check.part("III (2): what it pays is the CHEST's");
        NoRent x = new NoRent();
        x.estate(1, 0);
        x.estate(2, 0);
        x.estate(3, 0);
        x.person(0, 1000, 0);
        x.field(2, 10, 100, 0);
        x.field(1, 10, 40, 0);
        x.field(2, 10, 7, 0);
        x.go(14);
        Check.due("ESTATE 0", x.owner(0, 0), 1);
        Check.due("ESTATE 1", x.owner(1, 0), 42);
        Check.due("ESTATE 2", x.owner(2, 0), 110);
    }

    private static void chestPaysTheMortgage() {
        Check.part("III (2): its CHEST pays the MORTGAGE; if it has less, it pays all, and has FALLEN in this QUARTER");
        int[][] rows = {{0, 100, 0, NONE}, {0, 101, 0, 1}, {0, 99, 1, NONE}, {5, 105, 0, NONE}, {5, 106, 0, 1}, {5, 0, 105, NONE}};
        for (int[] row : rows) {
            NoRent x = new NoRent();
            x.estate(row[0], row[1]);
            x.person(0, 100, 0);
            x.field(0, 10, 100, 0);
            x.go(14);
            Check.due("CHEST of " + row[0] + " + 100 - " + row[1], x.owner(0, 0), row[2]);
            Check.due("FALLEN", x.owner(0, 1), row[3]);
        }
        NoRent y = new NoRent();
        y.estate(100, 100);
        y.estate(99, 100);
        y.estate(0, 0);
        y.go(14);
        int[] fallen = {NONE, 1, NONE};
        for (int e = 0; e < 3; e++) {
            Check.due("ESTATE by ESTATE, " + e, y.owner(e, 1), fallen[e]);
            Check.due("pays all that it has", y.owner(e, 0), 0);
        }
    }

    private static void fallenOnce() {
        Check.part("III (2): ESTATE by ESTATE that has not FALLEN");
        NoRent x = new NoRent();
        x.estate(150, 100);
        x.person(0, 1000, 0);
        x.go(14);
        Check.due("paid", x.owner(0, 0), 50);
        x.go(13);
        Check.due("FALLEN", x.owner(0, 1), 2);
        x.field(0, 10, 300, 0);
        x.go(13);
        Check.due("it gets RENTS, and pays no more", x.owner(0, 0), 300);
        x.go(13);
        Check.due("and so on", x.owner(0, 0), 600);
        Check.due("FALLEN as it was", x.owner(0, 1), 2);
    }

    private static void fallenInTheLastQuarter() {
        Check.part("III (2): FALLEN in this QUARTER (30, the last)");
        NoRent x = new NoRent();
        x.estate(2999, 100);
        x.go(104);
        x.go(104);
        x.go(104);
        x.go(78);
        Check.due("99 left in WEEK 390", x.owner(0, 0), 99);
        Check.due("not yet", x.owner(0, 1), NONE);
        x.go(1);
        Check.due("FALLEN", x.owner(0, 1), 30);
    }

    private static void sixtyWritsInAll() {
        Check.part("III (3): WRITS, 60 at most in all");
        NoRent x = Scenes.tenants(1, 0);
        x.go(14);
        for (int i = 1; i <= 60; i++) {
            Check.due("writ", x.writ(0), i);
            Check.due("count", x.count(5), i);
            x.avoid(0);
        }
        Check.due("full, though all have ended", x.writ(0), -5);
        Check.due("still 60", x.count(5), 60);
        Check.due("none is on the FIELD", x.tells(0, 5), NONE);
    }

    private static void notInTheWeekInWhichItWasTold() {
        Check.part("III (3): one WEEK less is left (not in that in which it was told)");
        NoRent x = Scenes.tenants(2, 0);
        x.go(14);
        x.writ(0);
        int[] left = {4, 4, 3, 2, 1, 4};
        for (int week = 0; week < 6; week++) {
            Check.due("WEEKS left, " + week, x.tells(0, 6), left[week]);
            Check.due("STEP, " + week, x.tells(0, 5), week < 5 ? 0 : 1);
            if (week == 2) {
                x.writ(1);
            }
            if (week > 1) {
                Check.due("of another, told later", x.tells(1, 6), week < 4 ? 4 : 7 - week);
            }
            x.go(1);
        }
        // a STEP of one WEEK
        NoRent y = Scenes.tenants(1, 0);
        Check.text(y, 0, Scenes.QUICK);
        y.go(14);
        y.writ(0);
        int[] step = {0, 0, 1, 2, 3, NONE};
        for (int week = 0; week < 6; week++) {
            Check.due("STEP of one WEEK, " + week, y.tells(0, 5), step[week]);
            Check.due("HOLDER, " + week, y.tells(0, 0), week < 5 ? 0 : NONE);
            y.go(1);
        }
    }

    private static void notWhileGuarded() {
        Check.part("III (3): not in a WEEK in which its FIELD is GUARDED");
        // GUARDED from a WEEK to a WEEK; then the WEEKS left behind each of WEEKS 14 .. 18
        int[][] rows = {{0, 13, 9, 8, 7, 6, 5}, {0, 14, 9, 8, 7, 6, 5}, {0, 15, 9, 9, 8, 7, 6}, {15, 15, 9, 9, 8, 7, 6}, {16, 16, 9, 8, 8, 7, 6},
            {16, 17, 9, 8, 8, 8, 7}, {15, 18, 9, 9, 9, 9, 9}, {17, 399, 9, 8, 7, 7, 7}, {19, 399, 9, 8, 7, 6, 5}, {0, 399, 9, 9, 9, 9, 9}};
        for (int[] row : rows) {
            NoRent x = Scenes.tenants(2, 0);
            Check.text(x, 0, "step 0 9");
            x.guard(0, row[0], row[1]);
            x.go(14);
            x.writ(0);
            x.writ(1);
            for (int week = 14; week < 19; week++) {
                x.go(1);
                Check.due("GUARDED " + row[0] + " .. " + row[1] + ", WEEK " + week, x.tells(0, 6), row[week - 12]);
                Check.due("another FIELD is not", x.tells(1, 6), 9 - (week - 14));
            }
        }
        NoRent y = Scenes.tenants(1, 0);
        Check.text(y, 0, Scenes.QUICK);
        y.go(14);
        y.writ(0);
        y.go(4);
        y.guard(0, 18, 19);
        y.guard(0, 19, 20);
        y.go(3);
        Check.due("the last STEP waits", y.tells(0, 0), 0);
        y.go(1);
        Check.due("put OUT in WEEK 21", y.tells(0, 0), NONE);
        Check.due("since", y.of(0, 4), 21);
    }

    private static void endedWithoutArrear() {
        Check.part("III (3): it has ended, if the FIELD has no ARREAR");
        NoRent x = Scenes.tenants(1, 0);
        x.go(14);
        x.writ(0);
        x.coin(0, 199);
        x.go(13);
        Check.due("one of 200 is still owed", x.tells(0, 2), 1);
        Check.due("so it goes on", x.tells(0, 5), 3);
        NoRent y = Scenes.tenants(1, 0);
        y.go(14);
        y.writ(0);
        y.coin(0, 200);
        y.go(12);
        Check.due("until the WEEK of the RENT", y.tells(0, 5), 2);
        y.go(1);
        Check.due("ended", y.tells(0, 5), NONE);
        Check.due("ended", y.tells(0, 6), NONE);
        Check.due("none to be void", y.avoid(0), -3);
        y.go(13);
        Check.due("another may be told", y.writ(0), 2);
        // GUARDED, and in the WEEK in which it was told
        NoRent z = Scenes.tenants(2, 0);
        z.go(26);
        z.writ(0);
        z.guard(1, 26, 26);
        z.writ(1);
        z.coin(0, 200);
        z.coin(1, 200);
        z.go(1);
        Check.due("ended in the WEEK in which it was told", z.tells(0, 5), NONE);
        Check.due("ended while GUARDED", z.tells(1, 5), NONE);
    }

    private static void theNextStepBegins() {
        Check.part("III (3): with none left the next STEP begins, with its WEEKS (as in force then)");
        NoRent x = Scenes.tenants(1, 0);
        Check.text(x, 0, "step 0 2;step 1 3;step 2 1;step 3 2");
        Check.text(x, 17, "step 1 50;step 2 4");
        x.go(14);
        x.writ(0);
        int[][] due = {{0, 2}, {0, 2}, {0, 1}, {1, 3}, {1, 2}, {1, 1}, {2, 4}, {2, 3}, {2, 2}, {2, 1}, {3, 2}, {3, 1}, {NONE, NONE}};
        for (int i = 0; i < due.length; i++) {
            Check.due("STEP in WEEK " + (14 + i), x.tells(0, 5), due[i][0]);
            Check.due("WEEKS left in WEEK " + (14 + i), x.tells(0, 6), due[i][1]);
            x.go(1);
        }
        Check.due("put OUT in WEEK 25", x.of(0, 4), 25);
    }

    private static void writsAtOnce() {
        Check.part("III (3): a WRIT asked for right behind a TEXT, behind BACK, and in WEEK 0");
        NoRent x = Scenes.tenants(1, 0);
        x.go(14);
        Check.text(x, 14, "step 0 9");
        x.writ(0);
        Check.due("with the TEXT told a call ago", x.tells(0, 6), 9);
        NoRent y = Scenes.tenants(1, 0);
        Check.text(y, 14, "step 0 9");
        y.go(13);
        y.image(0);
        y.go(1);
        y.writ(0);
        Check.due("in force now", y.tells(0, 6), 9);
        y.back(0);
        Check.text(y, 13, "step 0 7");
        y.go(1);
        y.writ(0);
        Check.due("the one told last", y.tells(0, 6), 7);
        Check.due("WEEK 0: no ARREAR yet", Scenes.tenants(1, 0).writ(0), -3);
        // as force() asked for another WEEK just now
        NoRent z = Scenes.tenants(1, 0);
        Check.text(z, 0, "step 0 9");
        Check.text(z, 100, "strike 0 clause 0");
        z.go(14);
        z.force(0, 0, 399);
        z.writ(0);
        Check.due("as it is NOW", z.tells(0, 6), 9);
    }

    private static void putOut() {
        Check.part("III (3): behind STEP 3 the HOLDER is put OUT");
        NoRent x = Scenes.putOut(1, "");
        Check.due("the FIELD has none", x.tells(0, 0), NONE);
        Check.due("somebody was put OUT of it", x.tells(0, 7), 1);
        Check.due("FAIR without HOLDER", x.tells(0, 3), NONE);
        Check.due("no WRIT any more", x.tells(0, 5), NONE);
        Check.due("on the ROAD", x.of(0, 0), 1);
        Check.due("since this WEEK", x.of(0, 4), 18);
        Check.due("the ARREAR is the FIELD's", x.tells(0, 2), 100);
        x.go(20);
        Check.due("nothing is asked of nobody", x.tells(0, 2), 100);
        Check.due("since that WEEK", x.of(0, 4), 18);
    }

    private static void putOutOfOneOfTwo() {
        Check.part("III (3): a HOLDER who holds no other FIELD");
        NoRent x = Scenes.tenants(1, 0);
        x.field(0, 10, 5, 0);
        Check.text(x, 0, Scenes.QUICK);
        x.go(14);
        x.writ(0);
        x.go(1);
        x.writ(1);
        x.go(4);
        Check.due("the first FIELD is lost", x.tells(0, 0), NONE);
        Check.due("it holds another", x.of(0, 0), 0);
        Check.due("and is not out", x.of(0, 4), NONE);
        x.go(1);
        Check.due("the second FIELD is lost", x.tells(1, 0), NONE);
        Check.due("on the ROAD", x.of(0, 0), 1);
        Check.due("since", x.of(0, 4), 19);
        // both in one WEEK, WRIT by WRIT
        NoRent y = Scenes.tenants(1, 0);
        y.field(0, 10, 5, 0);
        Check.text(y, 0, Scenes.QUICK);
        y.go(14);
        y.writ(1);
        y.writ(0);
        y.go(5);
        Check.due("both are lost", y.tells(0, 0) + y.tells(1, 0), 2 * NONE);
        Check.due("on the ROAD", y.of(0, 0), 1);
        Check.due("since", y.of(0, 4), 18);
    }

    private static void putOutWhoIsNotInTheHouse() {
        Check.part("III (3): and was in the HOUSE");
        for (int state = 0; state < 5; state++) {
            NoRent x = Scenes.tenants(1, 0);
            Check.text(x, 0, Scenes.QUICK);
            x.go(14);
            x.writ(0);
            x.goes(0, state);
            x.go(5);
            Check.due("the FIELD has none, " + state, x.tells(0, 0), NONE);
            Check.due("somebody was put OUT of it, " + state, x.tells(0, 7), 1);
            Check.due("state " + state, x.of(0, 0), state == 0 ? 1 : state);
            Check.due("since, " + state, x.of(0, 4), state == 0 ? 18 : NONE);
        }
    }

    private static void aVoidWritEnds() {
        Check.part("III (3): a WRIT that is told to be void ends");
        NoRent x = Scenes.tenants(1, 0);
        Check.text(x, 0, Scenes.QUICK);
        x.go(14);
        x.writ(0);
        x.go(4);
        Check.due("at its last STEP", x.tells(0, 5), 3);
        Check.due("void", x.avoid(0), 0);
        x.go(5);
        Check.due("nobody is put OUT", x.tells(0, 0), 0);
        Check.due("anew", x.writ(0), 2);
        Check.due("at STEP 0", x.tells(0, 5), 0);
        x.go(1);
        Check.due("told in this WEEK", x.tells(0, 5), 0);
        x.go(1);
        Check.due("the next STEP", x.tells(0, 5), 1);
    }

    private static void whatIsLostHasNoWrit() {
        Check.part("III (3): of a FIELD with a HOLDER and an ARREAR, not yet under one");
        NoRent x = Scenes.putOut(1, "grab");
        Check.due("an ARREAR, but no HOLDER", x.writ(0), -3);
        Check.due("none to be void", x.avoid(0), -3);
        x.person(5, 0, 0);
        x.take(1, 0, 0);
        Check.due("with a HOLDER again", x.writ(0), 2);
        Check.due("under one", x.writ(0), -3);
        x.go(5);
        Check.due("put OUT", x.of(1, 4), 23);
        NoRent y = Scenes.tenants(1, 1000);
        y.go(14);
        Check.due("a HOLDER, but no ARREAR", y.writ(0), -3);
    }

    private static void outAndOnTheRoad() {
        Check.part("III (4): PERSON by PERSON who is out and on the ROAD");
        NoRent x = Scenes.putOut(5, "draw 3");
        x.person(9, 0, 0);
        x.person(9, 0, 0);
        x.goes(5, 1);
        for (int state = 0; state < 5; state++) {
            x.goes(state, state);
        }
        x.give(100);
        x.go(1);
        for (int p = 0; p < 7; p++) {
            Check.due("PERSON " + p, x.of(p, 1), p == 1 ? 3 : 0);
        }
        Check.due("FUND", x.fund(), 97);
        x.goes(0, 1);
        x.goes(3, 1);
        x.go(1);
        Check.due("on the ROAD again", x.of(0, 1), 3);
        Check.due("on the ROAD again", x.of(3, 1), 3);
        Check.due("never put OUT", x.of(5, 1), 0);
        Check.due("FUND", x.fund(), 97 - 9);
    }

    private static void theSumOfAllDraws() {
        Check.part("III (4): the sum of all \"draw\" that HOLD for it (no FIELD), at least 0");
        String[] draws = {"draw 1", "draw 0", "draw 5;draw 2", "draw 5;draw 0-3", "draw 3;draw 0-3", "draw 3;draw 0-4;fair 9", "draw 0-7",
            "draw 4;draw 5/0", "draw 4;draw 5 if house=1", "draw 4;draw 5 if 1/0=1", "draw worth+rent+arrear+estate+2", "draw coin+3", "keep;ban;fair 9", ""};
        int[] drawn = {1, 0, 7, 2, 0, 0, 0, 4, 4, 4, 2, 3, 0, 0};
        for (int i = 0; i < draws.length; i++) {
            NoRent x = Scenes.putOut(1, draws[i]);
            x.give(50);
            x.go(1);
            Check.due("of " + draws[i], x.of(0, 1), drawn[i]);
            Check.due("FUND behind " + draws[i], x.fund(), 50 - drawn[i]);
        }
        NoRent y = Scenes.putOut(1, "draw 5");
        y.give(100);
        Check.text(y, 20, "draw 7");
        y.go(1);
        Check.due("in force in WEEK 19", y.of(0, 1), 5);
        y.go(1);
        Check.due("both, in WEEK 20", y.of(0, 1), 17);
        Check.text(y, 0, "strike 0 clause 4");
        y.go(1);
        Check.due("struck", y.of(0, 1), 24);
    }

    private static void ifTheFundHasAsMuch() {
        Check.part("III (4): it gets that, if the FUND has as much, else nothing");
        int[][] rows = {{9, 9, 9}, {8, 9, 0}, {10, 9, 9}, {0, 0, 0}, {0, 1, 0}, {1, 1, 1}};
        for (int[] row : rows) {
            NoRent x = Scenes.putOut(1, "draw " + row[1]);
            x.give(row[0]);
            x.go(1);
            Check.due("of a FUND of " + row[0] + ", " + row[1], x.of(0, 1), row[2]);
            Check.due("FUND", x.fund(), row[0] - row[2]);
        }
        // far beyond what a FUND can have, and beyond what an int can be
        NoRent y = Scenes.putOut(1, "draw 100000*10000;draw 100000*10000;draw 100000*10000;draw 100000*10000;draw 100000*2949+67300");
        y.give(10_000_000);
        y.go(1);
        Check.due("not by wrapping around", y.of(0, 1), 0);
        Check.due("FUND", y.fund(), 10_000_000);
    }

    private static void personByPerson() {
        Check.part("III (4): PERSON by PERSON");
        NoRent x = Scenes.putOut(4, "draw 5 if house<2;draw 3 if house>1");
        x.give(9);
        x.go(1);
        int[] coin = {5, 0, 3, 0};
        for (int p = 0; p < 4; p++) {
            Check.due("PERSON " + p, x.of(p, 1), coin[p]);
        }
        Check.due("FUND", x.fund(), 1);
    }

    private static void drawnInTheWeekOfIt() {
        Check.part("III (3), (4): who is put OUT in this WEEK draws in it");
        NoRent x = Scenes.tenants(1, 0);
        Check.text(x, 0, Scenes.QUICK + ";draw 2");
        x.go(14);
        x.writ(0);
        x.give(9);
        x.go(4);
        Check.due("not yet", x.of(0, 1), 0);
        x.go(1);
        Check.due("in WEEK 18", x.of(0, 1), 2);
    }

    private static void bannedFromTheEndOfThisWeek() {
        Check.part("III (5): BANNED are, from the end of this WEEK on, all for whom a \"ban\" HOLDS (by how things are behind (4))");
        NoRent x = Scenes.tenants(2, 0);
        Check.text(x, 2, "ban if house=1");
        for (int week = 0; week < 4; week++) {
            Check.due("PERSON 1 ahead of WEEK " + week, x.of(1, 3), week < 3 ? 0 : 1);
            Check.due("PERSON 0 ahead of WEEK " + week, x.of(0, 3), 0);
            x.go(1);
        }
        Check.text(x, 0, "strike 0 clause 0");
        Check.due("struck, but BANNED up to the end of the WEEK", x.of(1, 3), 1);
        x.go(1);
        Check.due("no more", x.of(1, 3), 0);
        // "week" is this WEEK, COIN is that behind the RENT, the draw
        NoRent y = Scenes.tenants(1, 150);
        Check.text(y, 0, "ban if week=13 and coin=50");
        y.go(13);
        Check.due("not yet", y.of(0, 3), 0);
        y.go(1);
        Check.due("behind (2)", y.of(0, 3), 1);
        y.go(1);
        Check.due("WEEK 14", y.of(0, 3), 0);
        NoRent z = Scenes.putOut(1, "draw 5;ban if coin=5;ban if 1/0=1");
        z.give(5);
        z.go(1);
        Check.due("behind (4)", z.of(0, 3), 1);
        NoRent dead = Scenes.tenants(1, 0);
        Check.text(dead, 0, "ban");
        dead.goes(0, 4);
        dead.go(1);
        Check.due("the DEAD as well", dead.of(0, 3), 1);
    }

    private static void bannedAheadCount() {
        Check.part("III (5): those BANNED ahead count in \"banned\"");
        NoRent x = Scenes.tenants(1, 0);
        Check.text(x, 0, "ban if not banned");
        for (int week = 0; week < 6; week++) {
            Check.due("ahead of WEEK " + week, x.of(0, 3), week % 2);
            x.go(1);
        }
        NoRent y = Scenes.tenants(1, 0);
        Check.text(y, 0, "ban if week=2 or banned");
        y.go(2);
        Check.due("not yet", y.of(0, 3), 0);
        y.go(50);
        Check.due("for ever", y.of(0, 3), 1);
    }

    private static void bannedForNoField() {
        Check.part("III (5): for whom a \"ban\" HOLDS (no FIELD)");
        NoRent x = Scenes.tenants(2, 0);
        Check.text(x, 0, "ban if worth>0 or rent>0;ban if holds and worth=0 and house=1");
        x.go(1);
        Check.due("of no FIELD there is nothing", x.of(0, 3), 0);
        Check.due("but it is HOLDER of one", x.of(1, 3), 1);
    }

    /** A PERSON in each state takes a FIELD with a HOLDER, one from which somebody was put OUT, and one without. */
    private static void grabAndLet() {
        Check.part("III: GRAB, LET");
        for (int state = 0; state < 5; state++) {
            for (int what = 0; what < 2; what++) {
                NoRent x = Scenes.putOut(1, "grab");
                x.person(5, 0, 0);
                x.field(0, 10, 5, 1);
                x.field(0, 10, 5, NONE);
                x.person(6, 0, 0);
                x.goes(2, state);
                String who = "state " + state + ", what " + what;
                Check.due(who + ": it has a HOLDER", x.take(2, 1, what), -3);
                Check.due(who + ": from which somebody was put OUT", x.take(2, 0, what), state == 0 && what == 0 ? 0 : -3);
                Check.due(who + ": from which nobody was", x.take(2, 2, what), state == 0 && what == 1 ? 0 : -3);
                Check.due(who + ": HOLDER", x.tells(1, 0), 1);
                Check.due(who + ": HOLDER", x.tells(0, 0), state == 0 && what == 0 ? 2 : NONE);
                Check.due(who + ": HOLDER", x.tells(2, 0), state == 0 && what == 1 ? 2 : NONE);
                Check.due(who + ": taken already", x.take(1, 0, 0), state == 0 && what == 0 ? -3 : 0);
                Check.due(who + ": somebody was put OUT of it still", x.tells(0, 7), 1);
            }
        }
    }

    private static void aGrabMustHold() {
        Check.part("III: if a \"grab\" HOLDS for both");
        NoRent x = Scenes.putOut(2, "grab if fear>50 and worth=100;grab if 1/0=1");
        x.person(5, 0, 51);
        x.person(5, 0, 50);
        x.field(0, 99, 100, 3);
        Check.due("not for the PERSON", x.take(3, 0, 0), -3);
        Check.due("for both", x.take(2, 0, 0), 0);
        Check.text(x, 20, "strike 0 clause 4;grab if rent=101");
        Check.due("from the next WEEK on", x.take(2, 1, 0), 0);
        NoRent y = Scenes.putOut(2, "grab");
        y.person(5, 0, 0);
        Check.text(y, 20, "strike 0 clause 4;grab if rent=101");
        y.go(1);
        Check.due("struck, and not for the FIELD", y.take(2, 1, 0), -3);
        y.alter(1, 1);
        Check.due("for the FIELD", y.take(2, 1, 0), 0);
        NoRent z = Scenes.putOut(1, "");
        z.person(5, 0, 0);
        Check.due("none", z.take(1, 0, 0), -3);
        Check.text(z, 0, "grab");
        Check.due("with the TEXT told a call ago", z.take(1, 0, 0), 0);
        NoRent let = new NoRent();
        let.estate(0, 0);
        let.person(0, 0, 0);
        let.field(0, 1, 1, NONE);
        Check.due("LET needs no grab", let.take(0, 0, 1), 0);
    }

    private static void outNoMore() {
        Check.part("III: who takes a FIELD is out no more");
        for (int what = 0; what < 2; what++) {
            NoRent x = Scenes.putOut(2, "grab;draw 1");
            x.field(0, 10, 5, NONE);
            x.give(100);
            Check.due("not from the ROAD", x.take(0, what == 0 ? 0 : 2, what), -3);
            x.goes(0, 0);
            Check.due("out", x.of(0, 4), 18);
            Check.due("takes", x.take(0, what == 0 ? 0 : 2, what), 0);
            Check.due("out no more", x.of(0, 4), NONE);
            x.goes(0, 1);
            x.go(1);
            Check.due("so it draws no more", x.of(0, 1), 0);
            Check.due("but the other does", x.of(1, 1), 1);
        }
        NoRent y = Scenes.putOut(1, "");
        y.goes(0, 0);
        y.field(0, 10, 5, 0);
        Check.due("nor is who gets a new FIELD", y.of(0, 4), NONE);
    }

    private static void grabbedAsLongAsItHolds() {
        Check.part("III: a FIELD that was GRABBED is so as long as that HOLDER holds it");
        NoRent x = Scenes.putOut(2, "grab");
        x.person(5, 0, 0);
        x.person(6, 0, 0);
        x.field(0, 1, 1, 2);
        x.take(2, 0, 0);
        Check.due("grabs", Scenes.asks(x, "grabs", 2, NONE), 1);
        Check.due("of any FIELD", Scenes.asks(x, "grabs", 2, 2), 1);
        Check.due("another does not", Scenes.asks(x, "grabs", 3, NONE), 0);
        x.writ(0);
        x.go(5);
        Check.due("put OUT of it", x.tells(0, 0), NONE);
        Check.due("it holds another, not GRABBED", Scenes.asks(x, "holds and not grabs", 2, NONE), 1);
        x.take(3, 0, 0);
        Check.due("another GRABBED it", Scenes.asks(x, "grabs", 3, NONE), 1);
        Check.due("the first did not again", Scenes.asks(x, "grabs", 2, NONE), 0);
    }

    private static void twoHundredDeals() {
        Check.part("III: DEALS, 200 at most");
        NoRent x = Scenes.tenants(2, 100);
        for (int i = 1; i <= 200; i++) {
            Check.due("deal", x.deal(i % 2, (i + 1) % 2, 3), i);
        }
        Check.due("full", x.deal(0, 1, 1), -5);
        Check.due("still 200", x.count(6), 200);
        Check.due("nothing goes over", x.of(0, 1), 100);
        x.go(1);
        Check.due("full for ever", x.deal(0, 1, 1), -5);
    }

    private static void dealsThatCantBe() {
        Check.part("III: it can't be, if the buyer has less, one of both is not in a HOUSE or on the ROAD");
        NoRent x = Scenes.tenants(2, 10_000);
        Check.due("all that it has", x.deal(0, 1, 10_000), 1);
        Check.due("COIN goes over at once", x.of(0, 1), 20_000);
        Check.due("nothing is left", x.of(1, 1), 0);
        Check.due("less", x.deal(0, 1, 1), -3);
        x.coin(1, 9);
        Check.due("one less", x.deal(0, 1, 10), -3);
        Check.due("as much", x.deal(0, 1, 9), 2);
        Check.due("a seller needs none", x.deal(1, 0, 10_000), 3);
        Check.due("pence", x.deal(1, 0, 10_001), -1);
        Check.due("pence", x.deal(1, 0, 0), -1);
        Check.due("one", x.deal(1, 0, 1), 4);
        Check.due("with itself", x.deal(0, 0, 1), -3);
        Check.due("SACKS are not told of", x.of(0, 2) + x.of(1, 2), 0);
        for (int state = 0; state < 5; state++) {
            NoRent y = Scenes.tenants(2, 100);
            y.goes(0, state);
            Check.due("seller in state " + state, y.deal(0, 1, 1), state < 2 ? 1 : -3);
            NoRent z = Scenes.tenants(2, 100);
            z.goes(0, state);
            Check.due("buyer in state " + state, z.deal(1, 0, 1), state < 2 ? 1 : -3);
        }
    }

    private static void dealsWithTheBanned() {
        Check.part("III: or if the buyer is BANNED and the seller KEEPS THE BAN");
        NoRent x = new NoRent();
        int[] house = {1, 2, 3, 1};
        int[] fear = {0, 50, 49, 100};
        for (int p = 0; p < 4; p++) {
            x.person(house[p], 100, fear[p]);
        }
        Check.text(x, 0, "ban if fear=0");
        Check.due("not BANNED yet", x.deal(1, 0, 1), 1);
        x.go(1);
        Check.due("who KEEPS THE BAN", x.deal(1, 0, 1), -3);
        Check.due("who does not", x.deal(2, 0, 1), 2);
        Check.due("of the same HOUSE", x.deal(3, 0, 1), 3);
        Check.due("the BANNED one sells", x.deal(0, 1, 1), 4);
        x.heed(2, 1);
        Check.due("who heeds one that fears", x.deal(2, 0, 1), -3);
        x.brave(51);
        Check.due("who is brave", x.deal(1, 0, 1), 5);
        Check.due("who heeds one that is", x.deal(2, 0, 1), 6);
        x.brave(0);
        Check.due("all fear", x.deal(2, 0, 1), -3);
        Check.due("but of the same HOUSE", x.deal(3, 0, 1), 7);
    }

    private static void keepsTheBan() {
        Check.part("III: KEEPS THE BAN: its FEAR is not below BRAVE (0 .. 101; 50 at first)");
        NoRent x = new NoRent();
        int[] fear = {0, 1, 49, 50, 99, 100};
        for (int p = 0; p < fear.length; p++) {
            x.person(p, 0, fear[p]);
        }
        x.person(19, 0, 0);
        int[] brave = {50, 0, 1, 49, 51, 100, 101};
        for (int b : brave) {
            if (b != 50) {
                x.brave(b);
            }
            for (int p = 0; p < fear.length; p++) {
                Check.due("FEAR " + fear[p] + ", BRAVE " + b, x.keeps(p, 6), fear[p] >= b ? 1 : 0);
            }
        }
    }

    private static void ofWhomOneHeeds() {
        Check.part("III: or that of whom it heeds, or of whom that one heeds, and so on (40 at most)");
        NoRent x = new NoRent();
        for (int p = 0; p < 40; p++) {
            x.person(p % 20, 0, p == 39 ? 50 : 49);
        }
        for (int p = 0; p < 39; p++) {
            x.heed(p, p + 1);
        }
        Check.due("the longest row", x.keeps(0, 10), 1);
        for (int p = 1; p < 39; p++) {
            Check.due("from " + p + " on", x.keeps(p, p == 10 || p == 30 ? 11 : 10), 1);
        }
        x.heed(38, 0);
        Check.due("round and round without the one who fears", x.keeps(0, 10), 0);
        x.heed(38, 39);
        x.heed(39, 0);
        Check.due("round and round with it", x.keeps(0, 10), 1);
        Check.due("that one itself", x.keeps(39, 10), 1);
        x.heed(20, NONE);
        Check.due("the row ends", x.keeps(0, 10), 0);
        Check.due("behind that it does not", x.keeps(21, 10), 1);
        // two that heed each other
        NoRent y = new NoRent();
        y.person(0, 0, 0);
        y.person(1, 0, 0);
        y.person(2, 0, 50);
        y.heed(0, 1);
        y.heed(1, 0);
        Check.due("two", y.keeps(0, 2), 0);
        y.heed(1, 2);
        Check.due("even if that one is BANNED", y.keeps(0, 2), 1);
        y.heed(0, NONE);
        Check.due("nobody again", y.keeps(0, 2), 0);
    }

    private static void noneOfTheSameHouse() {
        Check.part("III: but none of the same HOUSE as the BANNED one");
        NoRent x = new NoRent();
        x.person(4, 0, 100);
        x.person(4, 0, 100);
        x.person(5, 0, 0);
        x.person(5, 0, 0);
        Check.due("of the same HOUSE", x.keeps(0, 1), 0);
        Check.due("of another", x.keeps(0, 2), 1);
        x.heed(2, 0);
        Check.due("heeds one of the BANNED one's HOUSE", x.keeps(2, 1), 1);
        Check.due("of the same HOUSE, whomever it heeds", x.keeps(2, 3), 0);
        x.goes(0, 4);
        Check.due("the DEAD are heeded", x.keeps(2, 1), 1);
    }
}
