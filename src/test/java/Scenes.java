/** Counties that several tests begin with. */
final class Scenes {
    /** Every STEP takes one WEEK: a WRIT told in WEEK w puts OUT in WEEK w + 4. */
    static final String QUICK = "step 0 1;step 1 1;step 2 1;step 3 1";

    private Scenes() {
    }

    /**
     * One ESTATE without CHEST and MORTGAGE; n PERSONS of HOUSES 0, 1, .. with so much COIN and FEAR 10,
     * each with a FIELD of WORTH 100 and RENT 100.
     */
    static NoRent tenants(int n, int coin) {
        NoRent x = new NoRent();
        x.estate(0, 0);
        for (int i = 0; i < n; i++) {
            x.person(i % 20, coin, 10);
            x.field(0, 100, 100, i);
        }
        return x;
    }

    /** Those tenants without COIN, put OUT in WEEK 18; NOW is 19. TEXT 0 is QUICK and what is told more (from CLAUSE 4 on). */
    static NoRent putOut(int n, String more) {
        NoRent x = tenants(n, 0);
        Check.text(x, 0, more.isEmpty() ? QUICK : QUICK + ";" + more);
        x.go(14);
        for (int i = 0; i < n; i++) {
            x.writ(i);
        }
        x.go(5);
        return x;
    }

    /** A FIELD of WORTH 1000 and its HOLDER, who has this PRICE and this many SACKS for each 100 of WORTH in WEEK 13. */
    static NoRent harvest(int coin, float sacks, int price) {
        NoRent x = tenants(1, coin);
        x.price(0, price);
        Check.row(x, 13, 0, sacks);
        return x;
    }

    /** Whether a TEST is so for a PERSON and a FIELD; the TEXT is taken back again by IMAGE 1. */
    static int asks(NoRent x, String test, int person, int field) {
        x.image(1);
        int text = Check.text(x, 0, "keep if " + test);
        int so = x.holds(text, 0, person, field);
        x.back(1);
        return so;
    }
}
