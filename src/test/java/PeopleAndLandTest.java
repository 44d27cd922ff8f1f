/** Promises 1 to 13 and 22 to 29: who lives there, what is held, writs, deals. */
public final class PeopleAndLandTest {
    private static final int NONE = NoRent.NONE;
    private static final int MIN = Check.MIN;
    private static final int MAX = Check.MAX;

    public static void main(String[] args) {
        newObject();
        person();
        heedAndKeeps();
        goes();
        coin();
        give();
        estate();
        field();
        ofAndTells();
        owner();
        price();
        writ();
        avoid();
        guard();
        take();
        putOutOfOneOfTwo();
        putOutWhileHeld();
        deal();
        brave();
        broke();
        Check.close();
    }

    private static void newObject() {
        Check.part("promise 1");
        NoRent x = new NoRent();
        for (int what = 0; what < 10; what++) {
            Check.due("count(" + what + ")", x.count(what), 0);
        }
        Check.due("fund", x.fund(), 0);
        Check.due("status", x.status(), 0);
        Check.due("fault", x.fault(), NONE);
        Check.due("found", x.found(), -3);
        Check.due("chosen", x.chosen(0), NONE);
        Check.due("of", x.of(0, 0), NONE);
        Check.due("tells", x.tells(0, 0), NONE);
        Check.due("owner", x.owner(0, 0), NONE);
        Check.due("back", x.back(0), -2);
    }

    private static void person() {
        Check.part("promise 2");
        NoRent x = new NoRent();
        Check.due("edges", x.person(0, 0, 0), 0);
        Check.due("edges", x.person(19, 1_000_000, 100), 1);
        Check.due("house", x.person(20, 0, 0), -1);
        Check.due("house", x.person(-1, 0, 0), -1);
        Check.due("coin", x.person(0, 1_000_001, 0), -1);
        Check.due("coin", x.person(0, -1, 0), -1);
        Check.due("fear", x.person(0, 0, 101), -1);
        Check.due("fear", x.person(0, 0, -1), -1);
        Check.due("far", x.person(MIN, MAX, MIN), -1);
        Check.due("status", x.status(), -1);
        for (int i = 2; i < 40; i++) {
            Check.due("room", x.person(1, i, 1), i);
        }
        Check.due("status", x.status(), 0);
        Check.due("no room", x.person(1, 1, 1), -5);
        Check.due("a bad number first", x.person(20, 1, 1), -1);
        Check.due("count", x.count(1), 40);
        Check.due("of", x.of(39, 1), 39);
        Check.due("of", x.of(40, 1), NONE);
    }

    private static void heedAndKeeps() {
        Check.part("promises 3, 29");
        NoRent x = new NoRent();
        for (int i = 0; i < 40; i++) {
            x.person(i == 39 ? 2 : i % 2, 0, i == 38 ? 50 : 49);
        }
        Check.due("nobody", x.heed(0, NONE), 0);
        Check.due("itself", x.heed(0, 0), -3);
        Check.due("no such", x.heed(40, 40), -2);
        Check.due("no such", x.heed(0, 40), -2);
        Check.due("no such", x.heed(0, -2), -2);
        Check.due("no such", x.heed(-1, NONE), -2);
        Check.due("far", x.heed(MAX, MIN), -2);
        Check.due("alone", x.keeps(0, 39), 0);
        Check.due("not below", x.keeps(38, 39), 1);
        for (int i = 0; i < 38; i++) {
            x.heed(i, i + 1);
        }
        Check.due("a chain of 38", x.keeps(0, 39), 1);
        Check.due("of the same HOUSE", x.keeps(0, 2), 0);
        Check.due("of another", x.keeps(0, 3), 1);
        // whom it heeds may be of the BANNED one's HOUSE
        Check.due("heeds one of that HOUSE", x.keeps(37, 0), 1);
        x.heed(37, 0);
        Check.due("round and round", x.keeps(0, 39), 0);
        x.heed(37, NONE);
        Check.due("none", x.keeps(36, 39), 0);
        Check.due("itself", x.keeps(1, 1), NONE);
        Check.due("no such", x.keeps(1, 40), NONE);
        Check.due("no such", x.keeps(-1, 1), NONE);
        Check.due("all fear", x.brave(49), 50);
        Check.due("all fear", x.keeps(36, 39), 1);
    }

    private static void goes() {
        Check.part("promise 4");
        NoRent x = Scenes.tenants(1, 0);
        for (int state = 3; state >= 0; state--) {
            Check.due("goes", x.goes(0, state), 0);
            Check.due("state", x.of(0, 0), state);
        }
        Check.due("bad", x.goes(0, 5), -1);
        Check.due("bad", x.goes(0, -1), -1);
        Check.due("bad first", x.goes(7, MAX), -1);
        Check.due("no such", x.goes(1, 0), -2);
        Check.due("no such", x.goes(MIN, 0), -2);
        Check.due("dies", x.goes(0, 4), 0);
        Check.due("dead", x.goes(0, 4), -3);
        Check.due("dead", x.goes(0, 0), -3);
        Check.due("state", x.of(0, 0), 4);
        Check.due("still the HOLDER", x.tells(0, 0), 0);
    }

    private static void coin() {
        Check.part("promise 5");
        NoRent x = Scenes.tenants(1, 0);
        Check.due("none", x.coin(0, 0), 0);
        for (int i = 1; i <= 9; i++) {
            Check.due("a million more", x.coin(0, 1_000_000), i * 1_000_000);
        }
        Check.due("more", x.coin(0, 999_999), 9_999_999);
        Check.due("at most", x.coin(0, 2), 10_000_000);
        Check.due("at most", x.of(0, 1), 10_000_000);
        Check.due("bad", x.coin(0, 1_000_001), -1);
        Check.due("bad", x.coin(0, -1), -1);
        Check.due("bad first", x.coin(9, -1), -1);
        Check.due("no such", x.coin(1, 0), -2);
        Check.due("no such", x.coin(-1, 0), -2);
    }

    private static void give() {
        Check.part("promises 6, 12");
        NoRent x = new NoRent();
        Check.due("none", x.give(0), 0);
        Check.due("bad", x.give(10_000_001), -1);
        Check.due("bad", x.give(-1), -1);
        for (int i = 1; i <= 9; i++) {
            Check.due("more", x.give(10_000_000), i * 10_000_000);
        }
        Check.due("more", x.give(9_999_999), 99_999_999);
        Check.due("at most", x.give(10_000_000), 100_000_000);
        Check.due("fund", x.fund(), 100_000_000);
        Check.due("fund keeps status", x.status(), 0);
    }

    private static void estate() {
        Check.part("promise 7");
        NoRent x = new NoRent();
        Check.due("edges", x.estate(0, 0), 0);
        Check.due("edges", x.estate(10_000_000, 1_000_000), 1);
        Check.due("chest", x.estate(10_000_001, 0), -1);
        Check.due("chest", x.estate(-1, 0), -1);
        Check.due("mortgage", x.estate(0, 1_000_001), -1);
        Check.due("mortgage", x.estate(0, -1), -1);
        for (int i = 2; i < 8; i++) {
            Check.due("room", x.estate(i, i), i);
        }
        Check.due("no room", x.estate(0, 0), -5);
        Check.due("bad first", x.estate(-1, 0), -1);
        Check.due("count", x.count(2), 8);
    }

    private static void field() {
        Check.part("promise 8");
        NoRent x = new NoRent();
        Check.due("no estate", x.field(0, 1, 0, NONE), -2);
        x.estate(0, 0);
        x.person(0, 0, 0);
        Check.due("no holder", x.field(0, 1, 0, NONE), 0);
        Check.due("edges", x.field(0, 1000, 100_000, 0), 1);
        Check.due("worth", x.field(0, 0, 0, 0), -1);
        Check.due("worth", x.field(0, 1001, 0, 0), -1);
        Check.due("rent", x.field(0, 1, -1, 0), -1);
        Check.due("rent", x.field(0, 1, 100_001, 0), -1);
        Check.due("bad first", x.field(5, 0, 0, 0), -1);
        Check.due("no such estate", x.field(1, 1, 0, 0), -2);
        Check.due("no such estate", x.field(-1, 1, 0, 0), -2);
        Check.due("no such holder", x.field(0, 1, 0, 1), -2);
        Check.due("no such holder", x.field(0, 1, 0, -2), -2);
        x.goes(0, 1);
        Check.due("not in a HOUSE", x.field(0, 1, 0, 0), -3);
        Check.due("no such first", x.field(1, 1, 0, 0), -2);
        for (int i = 2; i < 40; i++) {
            Check.due("room", x.field(0, 1, i, NONE), i);
        }
        Check.due("not in a HOUSE first", x.field(0, 1, 0, 0), -3);
        Check.due("no room", x.field(0, 1, 0, NONE), -5);
        Check.due("count", x.count(3), 40);
        Check.due("tells", x.tells(39, 1), 39);
    }

    private static void ofAndTells() {
        Check.part("promises 9, 10");
        NoRent x = new NoRent();
        x.estate(0, 0);
        x.person(3, 7, 20);
        x.person(3, 8, 20);
        x.person(3, 9, 20);
        x.person(4, 9, 20);
        x.field(0, 50, 300, 0);
        int[] of = {0, 7, 0, 0, NONE, 2};
        for (int what = 0; what < 6; what++) {
            Check.due("of(0, " + what + ")", x.of(0, what), of[what]);
        }
        Check.due("of", x.of(0, 6), NONE);
        Check.due("of", x.of(0, -1), NONE);
        Check.due("of", x.of(4, 0), NONE);
        x.goes(1, 1);
        Check.due("kin in the HOUSE alone", x.of(0, 5), 1);
        Check.due("kin of one who is not in it", x.of(1, 5), 2);
        int[] tells = {0, 300, 0, 300, 0, NONE, NONE, 0};
        for (int what = 0; what < 8; what++) {
            Check.due("tells(0, " + what + ")", x.tells(0, what), tells[what]);
        }
        Check.due("tells", x.tells(0, 8), NONE);
        Check.due("tells", x.tells(0, -1), NONE);
        Check.due("tells", x.tells(1, 0), NONE);
        Check.due("tells", x.tells(MIN, 0), NONE);
        x.field(0, 50, 300, NONE);
        Check.text(x, 0, "fair 10;keep");
        int[] empty = {NONE, 300, 0, NONE, 0, NONE, NONE, 0};
        for (int what = 0; what < 8; what++) {
            Check.due("tells(1, " + what + ")", x.tells(1, what), empty[what]);
        }
        Check.due("fair", x.tells(0, 3), 10);
        Check.due("keeps", x.tells(0, 4), 1);
        Check.text(x, 0, "fair 0 - 5");
        Check.due("at least 0", x.tells(0, 3), 0);
        Check.text(x, 0, "fair 301");
        Check.due("at most RENT", x.tells(0, 3), 300);
        Check.text(x, 0, "fair 1 / 0; fair 2 if coin > 7; fair 4 if coin = 7; fair 3 if 1 / 0 = 0");
        Check.due("the last that HOLDS", x.tells(0, 3), 4);
    }

    private static void owner() {
        Check.part("promise 11");
        NoRent x = new NoRent();
        x.estate(150, 100);
        x.estate(99, 100);
        x.estate(0, 0);
        Check.due("chest", x.owner(0, 0), 150);
        Check.due("not fallen", x.owner(0, 1), NONE);
        Check.due("what", x.owner(0, 2), NONE);
        Check.due("what", x.owner(0, -1), NONE);
        Check.due("no such", x.owner(3, 0), NONE);
        Check.due("no such", x.owner(-1, 0), NONE);
        x.go(13);
        Check.due("nothing in the first QUARTER", x.owner(1, 0), 99);
        x.go(1);
        Check.due("paid", x.owner(0, 0), 50);
        Check.due("pays all", x.owner(1, 0), 0);
        Check.due("fallen", x.owner(1, 1), 1);
        x.go(13);
        Check.due("pays all", x.owner(0, 0), 0);
        Check.due("fallen", x.owner(0, 1), 2);
        Check.due("fallen once", x.owner(1, 1), 1);
        x.go(104);
        Check.due("nothing to pay", x.owner(2, 1), NONE);
        // what has FALLEN still gets rents, but pays no more
        x.person(0, 5000, 0);
        x.field(0, 1, 10, 0);
        x.go(13);
        Check.due("gets rents", x.owner(0, 0), 10);
    }

    private static void price() {
        Check.part("promise 13");
        NoRent x = new NoRent();
        x.person(0, 0, 0);
        Check.text(x, 0, "ban if price = 100;ban if price = 7;ban if price = 0");
        Check.due("100 without", x.holds(0, 0, NONE, NONE), 1);
        Check.due("edges", x.price(399, 10_000), 0);
        Check.due("a WEEK behind", x.price(2, 0), 0);
        Check.due("100 ahead of it", x.holds(0, 0, NONE, NONE), 1);
        x.go(1);
        Check.due("this WEEK", x.price(1, 7), 0);
        Check.due("told", x.holds(0, 1, NONE, NONE), 1);
        x.go(1);
        Check.due("the latest", x.holds(0, 2, NONE, NONE), 1);
        Check.due("again", x.price(2, 7), 0);
        Check.due("told anew", x.holds(0, 1, NONE, NONE), 1);
        x.go(20);
        Check.due("it stays", x.holds(0, 1, NONE, NONE), 1);
        Check.due("bad", x.price(400, 0), -1);
        Check.due("bad", x.price(-1, 0), -1);
        Check.due("bad", x.price(0, 10_001), -1);
        Check.due("bad", x.price(0, -1), -1);
    }

    private static void writ() {
        Check.part("promise 22");
        NoRent x = Scenes.tenants(2, 0);
        x.field(0, 1, 5, NONE);
        Check.due("no such", x.writ(3), -2);
        Check.due("no such", x.writ(-1), -2);
        Check.due("no HOLDER", x.writ(2), -3);
        Check.due("no ARREAR", x.writ(0), -3);
        x.go(14);
        Check.due("ARREAR", x.tells(0, 2), 100);
        Check.due("writ", x.writ(0), 1);
        Check.due("under one", x.writ(0), -3);
        Check.due("another", x.writ(1), 2);
        Check.due("step", x.tells(0, 5), 0);
        Check.due("4 without", x.tells(0, 6), 4);
        x.go(1);
        Check.due("not in the WEEK in which it was told", x.tells(0, 6), 4);
        x.coin(1, 1000);
        x.go(12);
        Check.due("the last STEP", x.tells(0, 5), 3);
        Check.due("begins", x.tells(0, 6), 4);
        Check.due("it has ended", x.tells(1, 5), NONE);
        Check.due("RENT and ARREAR are paid", x.of(1, 1), 800);
        Check.due("no ARREAR", x.tells(1, 2), 0);
    }

    private static void avoid() {
        Check.part("promise 23");
        NoRent x = Scenes.tenants(1, 0);
        x.go(14);
        Check.due("none", x.avoid(0), -3);
        x.writ(0);
        Check.due("no such", x.avoid(1), -2);
        Check.due("no such", x.avoid(-1), -2);
        Check.due("void", x.avoid(0), 0);
        Check.due("none more", x.avoid(0), -3);
        Check.due("no STEP", x.tells(0, 5), NONE);
        Check.due("no WEEKS", x.tells(0, 6), NONE);
        Check.due("it counts", x.writ(0), 2);
        for (int i = 3; i <= 60; i++) {
            x.avoid(0);
            Check.due("room", x.writ(0), i);
        }
        Check.due("under one first", x.writ(0), -3);
        x.avoid(0);
        Check.due("no room", x.writ(0), -5);
        Check.due("in all", x.count(5), 60);
    }

    private static void guard() {
        Check.part("promise 24");
        NoRent y = Scenes.tenants(2, 0);
        y.go(14);
        y.writ(0);
        y.writ(1);
        Check.due("guard", y.guard(0, 15, 17), 1);
        Check.due("guard", y.guard(0, 17, 18), 2);
        y.go(6);
        Check.due("guarded in 15 .. 18, one less in 19", y.tells(0, 6), 3);
        Check.due("the other goes on", y.tells(1, 5), 1);
        Check.due("the other goes on", y.tells(1, 6), 3);
        Check.due("bad", y.guard(0, -1, 5), -1);
        Check.due("bad", y.guard(0, 5, 400), -1);
        Check.due("bad", y.guard(0, 6, 5), -1);
        Check.due("bad first", y.guard(9, 400, 400), -1);
        Check.due("no such", y.guard(2, 0, 0), -2);
        for (int i = 3; i <= 40; i++) {
            Check.due("room", y.guard(i % 2, 399, 399), i);
        }
        Check.due("no room", y.guard(0, 0, 0), -5);
        Check.due("no such first", y.guard(2, 0, 0), -2);
    }

    private static void take() {
        Check.part("promise 25");
        NoRent x = Scenes.tenants(2, 0);
        x.person(5, 0, 80);
        x.field(0, 10, 7, NONE);
        Check.text(x, 0, "step 0 1;step 1 1;step 2 1;step 3 1;grab if fear > 50 and worth = 100");
        x.go(14);
        x.writ(0);
        Check.due("it is held", x.take(2, 0, 0), -3);
        x.go(5);
        Check.due("put OUT", x.tells(0, 0), NONE);
        Check.due("somebody was", x.tells(0, 7), 1);
        Check.due("nobody was", x.tells(1, 7), 0);
        Check.due("on the ROAD", x.of(0, 0), 1);
        Check.due("since", x.of(0, 4), 18);
        Check.due("what", x.take(2, 0, 2), -1);
        Check.due("what", x.take(2, 0, -1), -1);
        Check.due("what first", x.take(9, 9, 2), -1);
        Check.due("no such", x.take(3, 0, 0), -2);
        Check.due("no such", x.take(2, 3, 0), -2);
        Check.due("LET", x.take(2, 0, 1), -3);
        Check.due("GRAB of what nobody was put OUT of", x.take(2, 2, 0), -3);
        Check.due("no grab HOLDS", x.take(1, 0, 0), -3);
        Check.due("on the ROAD", x.take(0, 2, 1), -3);
        Check.due("LET", x.take(2, 2, 1), 0);
        Check.due("GRAB", x.take(2, 0, 0), 0);
        Check.due("HOLDER", x.tells(0, 0), 2);
        Check.due("its ARREAR stays", x.tells(0, 2), 100);
        Check.due("somebody was", x.tells(0, 7), 1);
        // "grabs" is of the one who GRABBED, as long as it holds that FIELD
        Check.text(x, 0, "keep if grabs;keep if out;keep if holds");
        Check.due("grabs", x.holds(1, 0, 2, NONE), 1);
        Check.due("grabs", x.holds(1, 0, 1, NONE), 0);
        Check.due("out", x.holds(1, 1, 0, NONE), 1);
        Check.due("holds", x.holds(1, 2, 0, NONE), 0);
        Check.due("holds", x.holds(1, 2, 2, NONE), 1);
        x.writ(0);
        x.go(5);
        Check.due("put OUT again", x.tells(0, 0), NONE);
        Check.due("it holds another", x.of(2, 0), 0);
        Check.due("grabs no more", x.holds(1, 0, 2, NONE), 0);
        // who comes home and is LET a FIELD is out no more
        x.goes(0, 0);
        Check.due("still out", x.of(0, 4), 18);
        x.field(0, 1, 1, NONE);
        Check.due("LET", x.take(0, 3, 1), 0);
        Check.due("out no more", x.of(0, 4), NONE);
        Check.due("out no more", x.holds(1, 1, 0, NONE), 0);
    }

    private static void putOutOfOneOfTwo() {
        Check.part("terms III (3)");
        NoRent x = Scenes.tenants(1, 0);
        x.field(0, 1, 3, 0);
        x.go(14);
        x.writ(0);
        x.go(16);
        Check.due("not yet", x.tells(0, 0), 0);
        x.go(1);
        Check.due("put OUT", x.tells(0, 0), NONE);
        Check.due("it holds another", x.of(0, 0), 0);
        Check.due("so it is not out", x.of(0, 4), NONE);
        x.writ(1);
        x.go(17);
        Check.due("put OUT", x.tells(1, 0), NONE);
        Check.due("now it is", x.of(0, 0), 1);
        Check.due("since", x.of(0, 4), 47);
        // a FIELD is given to it at once
        x.goes(0, 0);
        x.field(0, 1, 1, 0);
        Check.due("it holds something since", x.of(0, 4), NONE);
    }

    private static void putOutWhileHeld() {
        Check.part("terms III (2), (3)");
        NoRent x = Scenes.tenants(1, 0);
        x.go(14);
        x.goes(0, 2);
        x.writ(0);
        x.go(17);
        Check.due("put OUT", x.tells(0, 0), NONE);
        Check.due("of others nothing is asked", x.tells(0, 2), 100);
        Check.due("HELD as before", x.of(0, 0), 2);
        Check.due("and not out", x.of(0, 4), NONE);
    }

    private static void deal() {
        Check.part("promise 27");
        NoRent x = new NoRent();
        x.person(0, 10_000, 50);
        x.person(1, 1_000_000, 50);
        x.person(0, 5, 100);
        Check.text(x, 0, "ban if coin > 20000");
        Check.due("bad", x.deal(0, 1, 0), -1);
        Check.due("bad", x.deal(0, 1, 10_001), -1);
        Check.due("bad first", x.deal(9, 9, MIN), -1);
        Check.due("no such", x.deal(0, 3, 1), -2);
        Check.due("no such", x.deal(-1, 0, 1), -2);
        Check.due("itself", x.deal(0, 0, 1), -3);
        Check.due("less", x.deal(0, 2, 6), -3);
        Check.due("all of it", x.deal(0, 2, 5), 1);
        Check.due("not BANNED yet", x.deal(0, 1, 10_000), 2);
        Check.due("seller", x.of(0, 1), 20_005);
        Check.due("buyer", x.of(1, 1), 990_000);
        x.deal(2, 0, 5);
        x.go(1);
        Check.due("BANNED", x.of(1, 3), 1);
        Check.due("KEEPS THE BAN", x.deal(0, 1, 1), -3);
        Check.due("a BANNED one may sell", x.deal(1, 0, 1), 4);
        x.brave(51);
        Check.due("does not fear", x.deal(0, 1, 1), 5);
        x.goes(0, 1);
        Check.due("on the ROAD", x.deal(0, 1, 1), 6);
        for (int state = 2; state < 4; state++) {
            x.goes(0, state);
            Check.due("away", x.deal(0, 1, 1), -3);
            Check.due("away", x.deal(1, 0, 1), -3);
        }
        x.goes(0, 0);
        for (int i = 7; i <= 200; i++) {
            Check.due("room", i % 2 == 0 ? x.deal(0, 1, 1) : x.deal(1, 0, 1), i);
        }
        Check.due("no room", x.deal(1, 0, 1), -5);
        Check.due("itself first", x.deal(1, 1, 1), -3);
        Check.due("count", x.count(6), 200);
        NoRent y = new NoRent();
        y.person(0, 1_000_000, 0);
        y.person(1, 1_000_000, 0);
        for (int i = 0; i < 9; i++) {
            y.coin(0, 1_000_000);
        }
        Check.due("full", y.deal(0, 1, 10_000), 1);
        Check.due("beyond is lost", y.of(0, 1), 10_000_000);
        Check.due("but paid", y.of(1, 1), 990_000);
    }

    private static void brave() {
        Check.part("promise 28");
        NoRent x = new NoRent();
        Check.due("at first", x.brave(101), 50);
        Check.due("edge", x.brave(0), 101);
        Check.due("bad", x.brave(102), -1);
        Check.due("status", x.status(), -1);
        Check.due("bad", x.brave(-1), -1);
        Check.due("stays", x.brave(7), 0);
        x.person(0, 0, 100);
        x.person(1, 0, 7);
        x.person(2, 0, 6);
        Check.due("not below", x.keeps(1, 0), 1);
        Check.due("below", x.keeps(2, 0), 0);
        x.brave(101);
        Check.due("none fears so much", x.keeps(0, 1), 0);
    }

    private static void broke() {
        Check.part("promise 30");
        NoRent x = new NoRent();
        x.person(0, 9000, 0);
        x.person(1, 50, 10);
        x.person(2, 60, 10);
        x.person(3, 70, 90);
        x.person(0, 80, 90);
        Check.due("not BANNED", x.broke(0, 1, 1, 0), NONE);
        Check.text(x, 0, "ban if coin > 1000");
        x.go(1);
        Check.due("may: 1, 2, and 4 of its HOUSE", x.broke(0, 50, 1, 0), 3);
        Check.due("i-th", x.broke(0, 50, 2, 0), 1);
        Check.due("i-th", x.broke(0, 50, 2, 1), 2);
        Check.due("i-th", x.broke(0, 50, 2, 2), 4);
        Check.due("i-th", x.broke(0, 50, 2, 3), NONE);
        Check.due("i-th", x.broke(0, 50, 2, -1), NONE);
        Check.due("not sure", x.broke(0, 50, 0, 0), NONE);
        Check.due("less COIN", x.broke(0, 51, 1, 0), 2);
        Check.due("sure", x.broke(0, 61, 0, 99), 4);
        Check.due("none", x.broke(0, 81, 1, 0), 0);
        Check.due("none is sure", x.broke(0, 81, 0, 0), NONE);
        x.goes(4, 1);
        Check.due("on the ROAD", x.broke(0, 61, 0, 0), 4);
        x.goes(4, 2);
        Check.due("HELD", x.broke(0, 61, 0, 0), NONE);
        Check.due("what", x.broke(0, 50, 3, 0), NONE);
        Check.due("what", x.broke(0, 50, -1, 0), NONE);
        Check.due("no pence", x.broke(0, 0, 1, 0), NONE);
        Check.due("no such", x.broke(5, 50, 1, 0), NONE);
        Check.due("no such", x.broke(-1, 50, 1, 0), NONE);
        Check.due("not BANNED", x.broke(1, 50, 1, 0), NONE);
        x.heed(1, 3);
        Check.due("heeds one who fears", x.broke(0, 50, 0, 0), 2);
    }
}
