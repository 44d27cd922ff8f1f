import java.util.function.ToIntFunction;
import java.util.function.ToLongFunction;

/** Promises 1 to 48 one by one: what is refused by what, that it changes nothing, and what status() tells of it. */
public final class PromiseEdgesTest {
    private static final int NONE = NoRent.NONE;
    private static final int MIN = Check.MIN;
    private static final int MAX = Check.MAX;
    private static final long NOTHING = -2_000_000_000_000L;

    public static void main(String[] args) {
        aNewObject();
        numbersThatCantBe();
        thereIsNoSuch();
        itCantBeByWhatStands();
        rowsAndTextsRefused();
        askedForWhatIsNot();
        askedForWhatsThatAreNot();
        heed();
        goes();
        coinAndGive();
        fieldOfEachHolder();
        endAndFeed();
        theTapeBehindRows();
        theTapeBehindTexts();
        theTapeBehindBeside();
        faultOfTheLatestThatRead();
        forceAndHolds();
        fortyGuards();
        brave();
        broke();
        brokeByWhatIsNow();
        numbersOfLast();
        chosenOfTheLatest();
        aWishNotThereAnyMore();
        aWishThatHasNoHolderAnyMore();
        clear();
        statusOfTheLatest();
        statusIsOfTheseAlone();
        everythingFull();
        fullOnPaper();
        Check.close();
    }

    private static void aNewObject() {
        Check.part("1: a new object");
        NoRent x = new NoRent();
        for (int what = 0; what < 10; what++) {
            Check.due("count(" + what + ")", x.count(what), 0);
        }
        Check.due("fund", x.fund(), 0);
        Check.due("fault", x.fault(), NONE);
        Check.due("status", x.status(), 0);
        Check.due("chosen", x.chosen(0), NONE);
        Check.due("found", x.found(), -3);
        Check.due("agree", x.agree(0, 0), 0);
        Check.due("choose", x.choose(1), NONE);
        Check.due("judge", x.judge(0, 1), NONE);
        Check.due("clear", x.clear(), 0);
        Check.due("text", x.text(0), -6);
        Check.due("row", x.row(0, 0), -2);
        Check.due("beside", x.beside(1), NOTHING);
        Check.due("brave", x.brave(50), 50);
        NoRent other = new NoRent();
        other.person(0, 5, 5);
        other.give(9);
        Check.due("no other one's PERSONS", x.count(1), 0);
        Check.due("no other one's FUND", x.fund(), 0);
    }

    /**
     * PERSON 0 holds FIELD 0 (ARREAR, WRIT), 1 is on the ROAD, put OUT of FIELD 1, 2 is DEAD and holds FIELD 2, 3 holds
     * FIELD 4; nobody ever held FIELD 3. There is a TEXT, a ROW of WEEK 30, a DEAL, an OFFER, a WISH, CROPS, IMAGE 0.
     * FAULT is 5, NOW is 19.
     */
    private static NoRent county() {
        NoRent x = Scenes.tenants(3, 0);
        Check.text(x, 0, Scenes.QUICK);
        x.person(3, 500, 60);
        x.goes(2, 4);
        x.go(14);
        x.writ(1);
        x.go(5);
        x.writ(0);
        x.avoid(0);
        x.writ(0);
        x.deal(0, 3, 40);
        Check.row(x, 30, 0, 5);
        x.offer(1, 2);
        x.wish(0);
        x.crops(3, 4);
        x.choose(20);
        x.seal();
        x.image(0);
        Check.text(x, 0, "keep keep");
        x.give(60);
        x.estate(5, 5);
        x.field(0, 10, 7, NONE);
        x.field(1, 10, 8, 3);
        return x;
    }

    /** Everything that can be asked, but for status() and the TAPE. */
    private static int[] snapshot(NoRent x) {
        int[] all = new int[160];
        int n = 0;
        for (int p = 0; p < x.count(1); p++) {
            for (int what = 0; what < 6; what++) {
                all[n++] = x.of(p, what);
            }
            all[n++] = x.keeps(p, (p + 1) % 4);
        }
        for (int f = 0; f < x.count(3); f++) {
            for (int what = 0; what < 8; what++) {
                all[n++] = x.tells(f, what);
            }
            all[n++] = x.crop(f, 30);
            all[n++] = x.crop(f, 20);
        }
        for (int e = 0; e < x.count(2); e++) {
            all[n++] = x.owner(e, 0);
            all[n++] = x.owner(e, 1);
        }
        for (int what = 0; what < 9; what++) {
            all[n++] = x.count(what);
        }
        all[n++] = x.fund();
        all[n++] = x.fault();
        all[n++] = x.found();
        all[n++] = x.chosen(0);
        all[n++] = x.chosen(1);
        all[n++] = x.judge(0, 40);
        all[n++] = x.agree(1, 2);
        all[n++] = x.force(0, 0, 19);
        return all;
    }

    private static void refused(String call, int why, ToIntFunction<NoRent> made) {
        NoRent x = county();
        int[] before = snapshot(x);
        Check.due(call, made.applyAsInt(x), why);
        Check.due("status of " + call, x.status(), why);
        int[] behind = snapshot(x);
        for (int i = 0; i < before.length; i++) {
            Check.due("answer " + i + " behind " + call, behind[i], before[i]);
        }
    }

    private static void numbersThatCantBe() {
        Check.part("REFUSED by -1 a number that can't be");
        for (int bad : new int[] {-1, 20, MIN, MAX}) {
            refused("person of HOUSE " + bad, -1, x -> x.person(bad, 0, 0));
        }
        for (int bad : new int[] {-1, 1_000_001, MIN, MAX}) {
            refused("person with COIN " + bad, -1, x -> x.person(0, bad, 0));
            refused("coin of " + bad, -1, x -> x.coin(0, bad));
            refused("estate with a MORTGAGE of " + bad, -1, x -> x.estate(0, bad));
        }
        for (int bad : new int[] {-1, 101, MIN, MAX}) {
            refused("person of FEAR " + bad, -1, x -> x.person(0, 0, bad));
        }
        for (int bad : new int[] {-1, 5, MIN, MAX}) {
            refused("goes into " + bad, -1, x -> x.goes(0, bad));
        }
        for (int bad : new int[] {-1, 10_000_001, MIN, MAX}) {
            refused("give " + bad, -1, x -> x.give(bad));
            refused("estate with a CHEST of " + bad, -1, x -> x.estate(bad, 0));
        }
        for (int bad : new int[] {0, -1, 1001, MIN, MAX}) {
            refused("field of WORTH " + bad, -1, x -> x.field(0, bad, 0, 0));
        }
        for (int bad : new int[] {-1, 100_001, MIN, MAX}) {
            refused("field with a RENT of " + bad, -1, x -> x.field(0, 1, bad, 0));
        }
        for (int bad : new int[] {-1, 400, MIN, MAX}) {
            refused("price of WEEK " + bad, -1, x -> x.price(bad, 1));
            refused("row of WEEK " + bad, -1, x -> Check.row(x, bad, 0, 1));
            refused("text from WEEK " + bad, -1, x -> Check.text(x, bad, "keep"));
            refused("guard from WEEK " + bad, -1, x -> x.guard(0, bad, 399));
            refused("guard to WEEK " + bad, -1, x -> x.guard(0, 0, bad));
        }
        refused("guard from 6 to 5", -1, x -> x.guard(0, 6, 5));
        refused("guard from 399 to 0", -1, x -> x.guard(0, 399, 0));
        for (int bad : new int[] {-1, 10_001, MIN, MAX}) {
            refused("PRICE of " + bad, -1, x -> x.price(0, bad));
            refused("crops at a PRICE of " + bad, -1, x -> x.crops(bad, 0));
            refused("crops of SACKS " + bad, -1, x -> x.crops(0, bad));
        }
        for (int bad : new int[] {-1, 2, MIN, MAX}) {
            refused("take " + bad, -1, x -> x.take(3, 2, bad));
            refused("image " + bad, -1, x -> x.image(bad));
            refused("back " + bad, -1, x -> x.back(bad));
        }
        for (int bad : new int[] {0, -1, 105, MIN, MAX}) {
            refused("go " + bad, -1, x -> x.go(bad));
        }
        for (int bad : new int[] {0, -1, 10_001, MIN, MAX}) {
            refused("deal for " + bad, -1, x -> x.deal(0, 3, bad));
        }
        for (int bad : new int[] {-1, 102, MIN, MAX}) {
            refused("brave " + bad, -1, x -> x.brave(bad));
        }
        for (int bad : new int[] {-1001, 1001, MIN, MAX}) {
            refused("offer of the league's " + bad, -1, x -> x.offer(bad, 0));
            refused("offer of the owners' " + bad, -1, x -> x.offer(0, bad));
        }
        for (int bad : new int[] {0, -1, 256, MIN, MAX}) {
            refused("alter by " + bad, -1, x -> x.alter(0, bad));
        }
        NoRent late = new NoRent();
        late.go(104);
        late.go(104);
        late.go(104);
        Check.due("go to 400", late.go(88), -1);
        Check.due("as it was", late.count(0), 312);
        Check.due("go to 399", late.go(87), 399);
        Check.due("go to 400", late.go(1), -1);
    }

    private static void thereIsNoSuch() {
        Check.part("REFUSED by -2 there is no such PERSON, ESTATE, FIELD, IMAGE");
        for (int no : new int[] {-1, 4, 40, MIN, MAX}) {
            refused("heed of " + no, -2, x -> x.heed(no, 0));
            refused("heed of " + no + ", nobody", -2, x -> x.heed(no, NONE));
            refused("goes of " + no, -2, x -> x.goes(no, 0));
            refused("coin of " + no, -2, x -> x.coin(no, 1));
            refused("take by " + no, -2, x -> x.take(no, 2, 1));
            refused("deal by the seller " + no, -2, x -> x.deal(no, 3, 1));
            refused("deal with the buyer " + no, -2, x -> x.deal(0, no, 1));
        }
        for (int no : new int[] {-2, 4, 40, MIN, MAX}) {
            refused("heed " + no, -2, x -> x.heed(0, no));
            refused("field held by " + no, -2, x -> x.field(0, 1, 0, no));
        }
        for (int no : new int[] {-1, 2, 8, MIN, MAX}) {
            refused("field of ESTATE " + no, -2, x -> x.field(no, 1, 0, 0));
        }
        for (int no : new int[] {-1, 5, 40, MIN, MAX}) {
            refused("row from FIELD " + no, -2, x -> Check.row(x, 40, no, 1));
            refused("writ on " + no, -2, x -> x.writ(no));
            refused("avoid on " + no, -2, x -> x.avoid(no));
            refused("guard of " + no, -2, x -> x.guard(no, 0, 0));
            refused("take of " + no, -2, x -> x.take(3, no, 1));
            refused("wish for " + no, -2, x -> x.wish(no));
            refused("alter of " + no, -2, x -> x.alter(no, 1));
        }
        refused("back to an IMAGE that was not kept", -2, x -> x.back(1));
    }

    private static void itCantBeByWhatStands() {
        Check.part("REFUSED by -3 it can't be by what stands; -4 twice");
        refused("heed itself", -3, x -> x.heed(0, 0));
        for (int state = 0; state < 5; state++) {
            int to = state;
            refused("goes of the DEAD into " + state, -3, x -> x.goes(2, to));
        }
        refused("field held by who is on the ROAD", -3, x -> x.field(0, 1, 0, 1));
        refused("field held by the DEAD", -3, x -> x.field(0, 1, 0, 2));
        refused("row of a WEEK ahead of NOW", -3, x -> Check.row(x, 18, 0, 1));
        refused("row of WEEK 0", -3, x -> Check.row(x, 0, 0, 1));
        refused("row, twice", -4, x -> Check.row(x, 30, 0, 1));
        refused("row, twice, of another FIELD", -4, x -> Check.row(x, 30, 3, 1));
        refused("writ on what is under one", -3, x -> x.writ(0));
        refused("writ on what has no HOLDER, but an ARREAR", -3, x -> x.writ(1));
        refused("writ on what has no HOLDER, no ARREAR", -3, x -> x.writ(3));
        refused("writ on what has no ARREAR", -3, x -> x.writ(4));
        refused("avoid where there is none", -3, x -> x.avoid(4));
        refused("avoid where it has ended", -3, x -> x.avoid(1));
        refused("GRAB without a grab", -3, x -> x.take(3, 1, 0));
        refused("GRAB of what nobody was put OUT of", -3, x -> x.take(3, 3, 0));
        refused("LET of what somebody was put OUT of", -3, x -> x.take(3, 1, 1));
        refused("LET of what has a HOLDER", -3, x -> x.take(3, 0, 1));
        refused("LET to who is on the ROAD", -3, x -> x.take(1, 3, 1));
        refused("LET to the DEAD", -3, x -> x.take(2, 3, 1));
        refused("deal with itself", -3, x -> x.deal(3, 3, 1));
        refused("deal for more than the buyer has", -3, x -> x.deal(3, 0, 41));
        refused("deal with the DEAD", -3, x -> x.deal(2, 3, 1));
        refused("deal with the DEAD", -3, x -> x.deal(3, 2, 1));
        refused("wish for what has no HOLDER", -3, x -> x.wish(3));
        refused("wish, twice", -4, x -> x.wish(0));
    }

    private static void rowsAndTextsRefused() {
        Check.part("REFUSED by -6 a TEXT, a ROW that can't be");
        refused("row of an empty TAPE", -6, x -> Check.row(x, 40, 0));
        refused("row of too many", -6, x -> Check.row(x, 40, 0, 1, 2, 3, 4, 5, 6));
        refused("row of too many from FIELD 4 on", -6, x -> Check.row(x, 40, 4, 1, 2));
        refused("row of too many by one byte", -6, x -> {
            Check.tape(x, 1f, 2f);
            x.end(5);
            return x.row(40, 4);
        });
        // FAULT 5, as county() has it already
        refused("text that can't be", -6, x -> Check.text(x, 0, "keep grab"));
        refused("text of blanks", -6, x -> Check.text(x, 0, "     "));
        Check.due("FAULT of nothing", Check.faultOf(""), 0);
        Check.due("FAULT of blanks", Check.faultOf("   "), 3);
    }

    private static void asked(String call, long due, ToLongFunction<NoRent> made) {
        NoRent x = county();
        x.brave(102);
        int[] before = snapshot(x);
        Check.due(call, made.applyAsLong(x), due);
        Check.due("status is not of " + call, x.status(), -1);
        int[] behind = snapshot(x);
        for (int i = 0; i < before.length; i++) {
            Check.due("answer " + i + " behind " + call, behind[i], before[i]);
        }
    }

    private static void askedForWhatIsNot() {
        Check.part("NONE of what is not there");
        for (int no : new int[] {-1, 4, 40, MIN, MAX}) {
            asked("of " + no, NONE, x -> x.of(no, 0));
            asked("keeps of " + no, NONE, x -> x.keeps(no, 0));
            asked("keeps the ban of " + no, NONE, x -> x.keeps(0, no));
            asked("broke by " + no, NONE, x -> x.broke(no, 1, 1, 0));
        }
        for (int no : new int[] {-2, 4, 40, MIN, MAX}) {
            asked("holds for PERSON " + no, NONE, x -> x.holds(0, 0, no, NONE));
        }
        for (int no : new int[] {-2, 5, 40, MIN, MAX}) {
            asked("holds for FIELD " + no, NONE, x -> x.holds(0, 0, NONE, no));
        }
        for (int no : new int[] {-1, 5, 40, MIN, MAX}) {
            asked("tells of " + no, NONE, x -> x.tells(no, 0));
            asked("crop of " + no, NONE, x -> x.crop(no, 30));
        }
        for (int no : new int[] {-1, 2, 8, MIN, MAX}) {
            asked("owner of " + no, NONE, x -> x.owner(no, 0));
            asked("least of " + no, NONE, x -> x.least(no, 2));
        }
        for (int no : new int[] {-1, 1, 20, MIN, MAX}) {
            asked("force of TEXT " + no, NONE, x -> x.force(no, 0, 0));
            asked("holds of TEXT " + no, NONE, x -> x.holds(no, 0, NONE, NONE));
            asked("chosen of WISH " + no, NONE, x -> x.chosen(no));
        }
        for (int no : new int[] {-1, 4, 12, 31, 32, MIN, MAX}) {
            asked("force of CLAUSE " + no, NONE, x -> x.force(0, no, 0));
            asked("holds of CLAUSE " + no, NONE, x -> x.holds(0, no, NONE, NONE));
        }
        for (int no : new int[] {-1, 400, MIN, MAX}) {
            asked("crop of WEEK " + no, NONE, x -> x.crop(0, no));
            asked("force in WEEK " + no, NONE, x -> x.force(0, 0, no));
        }
        for (int no : new int[] {-1, 0, 1, 10, MIN, MAX}) {
            asked("least by QUARTER " + no, NONE, x -> x.least(1, no));
        }
        for (int no : new int[] {-1, 2, 64, MIN, MAX}) {
            asked("judge of bits " + no, NONE, x -> x.judge(no, 1));
        }
        for (int no : new int[] {-1, 0, 105, MIN, MAX}) {
            asked("judge for WEEKS " + no, NONE, x -> x.judge(0, no));
            asked("choose for WEEKS " + no, NONE, x -> x.choose(no));
            asked("beside for WEEKS " + no, NOTHING, x -> x.beside(no));
        }
        for (int no : new int[] {-10_001, 10_001, MIN, MAX}) {
            asked("agree with the league's " + no, NONE, x -> x.agree(no, -10_000));
            asked("agree with the owners' " + no, NONE, x -> x.agree(-10_000, no));
        }
        for (int no : new int[] {-1, 1, 400, 401, MIN, MAX}) {
            asked("end of " + no, NONE, x -> x.end(no));
        }
        asked("keeps the ban of itself", NONE, x -> x.keeps(0, 0));
        asked("crop of a WEEK without a ROW", NONE, x -> x.crop(0, 29));
        asked("crop of what the ROW has not", NONE, x -> x.crop(1, 30));
    }

    private static void askedForWhatsThatAreNot() {
        Check.part("9, 10, 11, 30, 47: NONE for others");
        for (int what : new int[] {-1, 6, 7, MIN, MAX}) {
            asked("of(0, " + what + ")", NONE, x -> x.of(0, what));
        }
        for (int what : new int[] {-1, 8, 9, MIN, MAX}) {
            asked("tells(0, " + what + ")", NONE, x -> x.tells(0, what));
        }
        for (int what : new int[] {-1, 2, 3, MIN, MAX}) {
            asked("owner(0, " + what + ")", NONE, x -> x.owner(0, what));
        }
        for (int what : new int[] {-1, 10, 11, MIN, MAX}) {
            asked("count(" + what + ")", NONE, x -> x.count(what));
        }
    }

    private static void heed() {
        Check.part("3: whom a PERSON heeds (NONE: nobody): 0");
        NoRent x = new NoRent();
        x.person(0, 0, 0);
        x.person(1, 0, 100);
        x.person(2, 0, 0);
        Check.due("another", x.heed(0, 1), 0);
        Check.due("heeds", x.keeps(0, 2), 1);
        Check.due("another again", x.heed(0, 2), 0);
        Check.due("heeds no two", x.keeps(0, 1), 0);
        Check.due("back", x.heed(0, 1), 0);
        Check.due("itself", x.heed(0, 0), -3);
        Check.due("still", x.keeps(0, 2), 1);
        Check.due("nobody", x.heed(0, NONE), 0);
        Check.due("heeds nobody", x.keeps(0, 2), 0);
        Check.due("nobody twice", x.heed(0, NONE), 0);
        x.goes(1, 4);
        Check.due("the DEAD", x.heed(0, 1), 0);
        Check.due("the DEAD heed as well", x.heed(1, 0), 0);
    }

    private static void goes() {
        Check.part("4: goes");
        for (int from = 0; from < 5; from++) {
            for (int to = 0; to < 5; to++) {
                NoRent x = Scenes.tenants(1, 0);
                x.goes(0, from);
                Check.due("from " + from + " to " + to, x.goes(0, to), from == 4 ? -3 : 0);
                Check.due("state", x.of(0, 0), from == 4 ? 4 : to);
                Check.due("not out", x.of(0, 4), NONE);
                Check.due("HOLDER as ahead", x.tells(0, 0), 0);
            }
        }
    }

    private static void coinAndGive() {
        Check.part("5, 6: pence (0 .. 1,000,000; 0 .. 10,000,000)");
        NoRent x = Scenes.tenants(1, 3);
        Check.due("none", x.coin(0, 0), 3);
        Check.due("one", x.coin(0, 1), 4);
        Check.due("most", x.coin(0, 1_000_000), 1_000_004);
        Check.due("to nobody's FUND", x.fund(), 0);
        x.goes(0, 4);
        Check.due("to the DEAD", x.coin(0, 6), 1_000_010);
        Check.due("none", x.give(0), 0);
        Check.due("one", x.give(1), 1);
        for (int i = 1; i < 10; i++) {
            Check.due("most", x.give(10_000_000), 10_000_000 * i + 1);
        }
        Check.due("one less than full", x.give(9_999_998), 99_999_999);
        Check.due("full", x.give(1), 100_000_000);
        Check.due("beyond", x.give(1), 100_000_000);
        Check.due("far beyond", x.give(10_000_000), 100_000_000);
        Check.due("FUND", x.fund(), 100_000_000);
    }

    private static void fieldOfEachHolder() {
        Check.part("8: field (holder NONE: none); -3 the HOLDER isn't in a HOUSE");
        for (int state = 0; state < 5; state++) {
            NoRent x = Scenes.tenants(1, 0);
            x.goes(0, state);
            Check.due("held in state " + state, x.field(0, 1, 0, 0), state == 0 ? 1 : -3);
            Check.due("none", x.field(0, 1, 0, NONE), state == 0 ? 2 : 1);
        }
        NoRent y = Scenes.tenants(1, 0);
        int[][] edges = {{1, 0}, {1000, 100_000}, {1, 100_000}, {1000, 0}};
        for (int i = 0; i < edges.length; i++) {
            Check.due("edges", y.field(0, edges[i][0], edges[i][1], 0), i + 1);
            Check.due("WORTH", Scenes.asks(y, "worth=" + edges[i][0], NONE, i + 1), 1);
            Check.due("RENT", y.tells(i + 1, 1), edges[i][1]);
        }
        int[][] persons = {{0, 0, 0}, {19, 1_000_000, 100}};
        for (int i = 0; i < 2; i++) {
            Check.due("edges", y.person(persons[i][0], persons[i][1], persons[i][2]), i + 1);
            Check.due("COIN", y.of(i + 1, 1), persons[i][1]);
            String test = "house=" + persons[i][0] + " and fear=" + persons[i][2];
            Check.due("HOUSE, FEAR", Scenes.asks(y, test, i + 1, NONE), 1);
        }
        Check.due("edges", y.estate(10_000_000, 1_000_000), 1);
        Check.due("CHEST", y.owner(1, 0), 10_000_000);
        y.go(14);
        Check.due("MORTGAGE", y.owner(1, 0), 9_000_000);
    }

    private static void endAndFeed() {
        Check.part("16, 17: twenty bytes, the first n alone");
        NoRent x = new NoRent();
        Check.due("nothing", x.end(0), 0);
        Check.due("not so many", x.end(1), NONE);
        for (int i = 1; i <= 20; i++) {
            Check.due("feed", x.feed(MIN, MAX, -1, 0, i), 20 * i);
        }
        Check.due("full", x.feed(0, 0, 0, 0, 0), NONE);
        Check.due("as it was", x.count(9), 400);
        Check.due("not so many", x.end(401), NONE);
        Check.due("below 0", x.end(-1), NONE);
        Check.due("far", x.end(MIN), NONE);
        Check.due("far", x.end(MAX), NONE);
        Check.due("as it was", x.count(9), 400);
        Check.due("all", x.end(400), 400);
        Check.due("one less", x.end(399), 399);
        Check.due("not that one again", x.end(400), NONE);
        Check.due("no room", x.feed(0, 0, 0, 0, 0), NONE);
        Check.due("as it was", x.count(9), 399);
        Check.due("none", x.end(0), 0);
        // four of each number, the highest first, one behind the other
        Check.due("feed", x.feed(0x6B656570, 0x20696620, 0x313D3120, 0x616E6420, 0x6E6F7420), 20);
        Check.due("behind it", x.feed(0x323D3120, 0x6F72206F, 0x75743B62, 0x616E5858, -1), 40);
        Check.due("the first alone", x.end(34), 34);
        Check.due("keep if 1=1 and not 2=1 or out;ban", x.text(0), 0);
        Check.due("so", x.holds(0, 0, NONE, NONE), 1);
        Check.due("two CLAUSES", x.force(0, 1, 0), 1);
        Check.due("no third", x.force(0, 2, 0), NONE);
        // a byte is never below 0
        x.feed(-1, -1, -1, -1, -1);
        Check.due("no TEXT", x.text(0), -6);
        Check.due("at its first byte", x.fault(), 0);
    }

    /** What is fed behind a row() stands alone on the TAPE, whatever it answered. */
    private static void theTapeBehindRows() {
        Check.part("14: the TAPE is empty then");
        int[][] rows = {{19, 0}, {-1, 0}, {400, 0}, {40, 5}, {40, -1}, {18, 0}, {30, 0}, {40, 4}};
        int[] due = {2, -1, -1, -2, -2, -3, -4, -6};
        for (int i = 0; i < rows.length; i++) {
            NoRent x = county();
            Check.due("row " + i, Check.row(x, rows[i][0], rows[i][1], 7, 8), due[i]);
            Check.due("status", x.status(), Math.min(due[i], 0));
            Check.due("empty behind " + due[i], x.count(9), 0);
            Check.due("nothing to be shortened", x.end(1), NONE);
            Check.due("fed behind it", x.feed(0x41100000, 0, 0, 0, 0), 20);
            x.end(4);
            Check.due("a ROW of it alone", x.row(50, 1), 1);
            Check.due("SACKS", x.crop(1, 50), 9);
            Check.due("no more", x.crop(2, 50), NONE);
        }
    }

    private static void theTapeBehindTexts() {
        Check.part("18: -1; -5 (both ahead of reading it); -6");
        NoRent x = new NoRent();
        Check.due("told", Check.text(x, 0, "keep"), 0);
        Check.due("empty", x.count(9), 0);
        Check.due("can't be", Check.text(x, 0, "keep;keep keep"), -6);
        Check.due("empty", x.count(9), 0);
        Check.due("FAULT", x.fault(), 10);
        Check.due("blanks alone", Check.text(x, 0, "       "), -6);
        Check.due("FAULT at the end", x.fault(), 7);
        Check.due("empty", x.count(9), 0);
        Check.due("nothing", x.text(0), -6);
        Check.due("FAULT at the end", x.fault(), 0);
        Check.text(x, 0, "keep keep");
        Check.due("no WEEK", Check.text(x, 400, "grab"), -1);
        Check.due("it was not read", x.fault(), 5);
        Check.due("so it can be now", x.text(399), 1);
        Check.due("read", x.fault(), NONE);
        for (int i = 2; i < 20; i++) {
            Check.text(x, 0, "keep");
        }
        x.text(0);
        Check.due("no room", Check.text(x, 0, "keep keep keep"), -5);
        Check.due("it was not read", x.fault(), NONE);
    }

    private static void theTapeBehindBeside() {
        Check.part("41: TRIED, the TAPE is empty then; NOTHING for n that can't be, no room for a TEXT (20), a TEXT that can't be");
        int[] weeks = {1, 104, 0, 105, -1, MIN, MAX};
        for (int n : weeks) {
            NoRent x = new NoRent();
            Check.tape(x, "keep");
            Check.due("for " + n, x.beside(n), n == 1 || n == 104 ? 0 : NOTHING);
            Check.due("empty", x.count(9), 0);
            Check.tape(x, "keep keep");
            Check.due("for " + n + ", a TEXT that can't be", x.beside(n), NOTHING);
            Check.due("FAULT", x.fault(), n == 1 || n == 104 ? 5 : NONE);
            Check.due("empty", x.count(9), 0);
            Check.due("nothing", x.beside(n), NOTHING);
        }
        NoRent y = new NoRent();
        for (int i = 0; i < 19; i++) {
            Check.text(y, 0, "keep");
        }
        Check.tape(y, "ban");
        Check.due("room for one", y.beside(1), 0);
        Check.text(y, 0, "keep");
        Check.tape(y, "ban ban");
        Check.due("no room", y.beside(1), NOTHING);
        Check.due("empty", y.count(9), 0);
        Check.due("it was not read", y.fault(), NONE);
    }

    private static void faultOfTheLatestThatRead() {
        Check.part("19: FAULT of the latest text(), beside() that read a TEXT: its place; NONE without");
        NoRent x = Scenes.tenants(1, 0);
        Check.due("ahead of any", x.fault(), NONE);
        Check.text(x, 0, "keep 7");
        Check.due("text", x.fault(), 5);
        Check.due("asked again", x.fault(), 5);
        Check.text(x, -1, "x");
        Check.row(x, 0, 0, 1);
        x.beside(0);
        x.beside(105);
        x.image(0);
        x.back(0);
        Check.due("these read none", x.fault(), 5);
        Check.tape(x, "ban if");
        x.beside(1);
        Check.due("beside", x.fault(), 6);
        Check.text(x, 0, "ban");
        Check.due("one that can be", x.fault(), NONE);
        Check.text(x, 0, "");
        Check.due("empty", x.fault(), 0);
        Check.tape(x, "ban");
        x.beside(1);
        Check.due("one that can be", x.fault(), NONE);
    }

    private static void forceAndHolds() {
        Check.part("20, 21: 1, 0; NONE");
        NoRent x = Scenes.tenants(1, 0);
        Check.text(x, 0, "keep;fair 1;draw 1;ban;grab;strike 7 clause 7;step 0 1");
        for (int c = 0; c < 7; c++) {
            Check.due("in force " + c, x.force(0, c, 0), 1);
            for (int p = -1; p < 1; p++) {
                for (int f = -1; f < 1; f++) {
                    Check.due("holds " + c, x.holds(0, c, p, f), c < 5 ? 1 : 0);
                }
            }
        }
        Check.due("an eighth", x.force(0, 7, 0), NONE);
        Check.due("an eighth", x.holds(0, 7, 0, 0), NONE);
        // the other WEEK that was asked for is forgotten
        Check.text(x, 100, "strike 0 clause 0");
        Check.due("struck then", x.force(0, 0, 100), 0);
        Check.due("but holds NOW", x.holds(0, 0, 0, 0), 1);
        x.force(0, 0, 399);
        Check.due("KEEPS NOW", x.tells(0, 4), 1);
        Check.text(x, 0, "fair 44");
        x.force(0, 0, 399);
        Check.due("FAIR NOW", x.tells(0, 3), 44);
        NoRent y = Scenes.putOut(1, "grab");
        y.person(5, 0, 0);
        Check.text(y, 100, "strike 0 clause 4");
        y.force(0, 4, 399);
        Check.due("GRAB NOW", y.take(1, 0, 0), 0);
        NoRent z = new NoRent();
        z.estate(0, 99);
        z.person(0, 0, 0);
        z.field(0, 1, 99, 0);
        Check.text(z, 0, "fair 1");
        Check.text(z, 100, "strike 0 clause 0");
        z.force(0, 0, 399);
        Check.due("LEAST NOW", z.least(0, 1), 1);
    }

    private static void fortyGuards() {
        Check.part("24: a FIELD is GUARDED from a WEEK to a WEEK, 40 at most: how many times told");
        NoRent x = Scenes.tenants(2, 0);
        for (int i = 1; i <= 40; i++) {
            Check.due("guard", x.guard(i == 40 ? 1 : 0, i == 40 ? 15 : i % 14, i == 40 ? 16 : 13), i);
        }
        Check.due("full", x.guard(0, 0, 399), -5);
        Check.due("full, of the other as well", x.guard(1, 0, 399), -5);
        x.go(14);
        x.writ(0);
        x.writ(1);
        x.go(4);
        Check.due("none of those that were refused counts", x.tells(0, 6), 1);
        Check.due("the fortieth counts", x.tells(1, 6), 3);
    }

    private static void brave() {
        Check.part("28: BRAVE: what it was; -1");
        NoRent x = new NoRent();
        int[] brave = {0, 101, 100, 1, 50};
        int was = 50;
        for (int b : brave) {
            Check.due("brave(" + b + ")", x.brave(b), was);
            was = b;
        }
        Check.due("bad", x.brave(-1), -1);
        Check.due("bad", x.brave(102), -1);
        Check.due("as it was", x.brave(50), 50);
    }

    /** PERSON 3 is BANNED; 0, 1, 5 may sell to it. */
    private static NoRent banned() {
        NoRent x = new NoRent();
        int[] house = {0, 1, 2, 3, 4, 3};
        int[] coin = {10, 20, 30, 9000, 40, 50};
        int[] fear = {0, 49, 50, 0, 100, 100};
        for (int p = 0; p < 6; p++) {
            x.person(house[p], coin[p], fear[p]);
        }
        Check.text(x, 0, "ban if coin>1000");
        x.go(1);
        return x;
    }

    private static void broke() {
        Check.part("30: SURE the one, if it is the only one (what 0), how many MAY have (1), the i-th of them (2)");
        NoRent x = banned();
        int[] may = {0, 1, 5};
        int[] least = {1, 10, 11, 20, 21, 50, 51, 10_000};
        int[] many = {3, 3, 2, 2, 1, 1, 0, 0};
        for (int k = 0; k < least.length; k++) {
            Check.due("how many with " + least[k], x.broke(3, least[k], 1, 0), many[k]);
            Check.due("the one with " + least[k], x.broke(3, least[k], 0, 0), many[k] == 1 ? 5 : NONE);
            for (int i = -1; i < 4; i++) {
                int due = i >= 0 && i < many[k] ? may[3 - many[k] + i] : NONE;
                Check.due("the " + i + "-th with " + least[k], x.broke(3, least[k], 2, i), due);
            }
            for (int i : new int[] {MIN, -1, 7, MAX}) {
                Check.due("how many, whatever i", x.broke(3, least[k], 1, i), many[k]);
                Check.due("the one, whatever i", x.broke(3, least[k], 0, i), many[k] == 1 ? 5 : NONE);
            }
            Check.due("far", x.broke(3, least[k], 2, MIN), NONE);
            Check.due("far", x.broke(3, least[k], 2, MAX), NONE);
        }
        for (int what : new int[] {-1, 3, MIN, MAX}) {
            Check.due("what " + what, x.broke(3, 1, what, 0), NONE);
        }
        for (int pence : new int[] {0, -1, 10_001, MIN, MAX}) {
            for (int what = 0; what < 3; what++) {
                Check.due("no pence of a DEAL: " + pence, x.broke(3, pence, what, 0), NONE);
            }
        }
        for (int p = 0; p < 6; p++) {
            for (int what = 0; what < 3; what++) {
                int due = p == 3 ? x.broke(3, 21, what, 0) : NONE;
                Check.due("BANNED or not, " + p, x.broke(p, 21, what, 0), due);
            }
        }
    }

    private static void brokeByWhatIsNow() {
        Check.part("30: of PERSONS that are not itself, in a HOUSE or on the ROAD, and do not KEEP THE BAN of it now");
        for (int state = 0; state < 5; state++) {
            NoRent x = banned();
            x.goes(1, state);
            Check.due("state " + state, x.broke(3, 1, 1, 0), state < 2 ? 3 : 2);
            Check.due("state " + state, x.broke(3, 1, 2, 1), state < 2 ? 1 : 5);
            x.goes(3, state);
            Check.due("whatever the buyer's state", x.broke(3, 21, 0, 0), 5);
        }
        NoRent y = banned();
        y.brave(51);
        Check.due("one more is brave", y.broke(3, 1, 1, 0), 4);
        y.brave(101);
        Check.due("all are", y.broke(3, 1, 1, 0), 5);
        y.brave(0);
        Check.due("none is, but of its HOUSE", y.broke(3, 1, 0, 0), 5);
        y.brave(50);
        y.heed(0, 4);
        Check.due("who heeds one that fears", y.broke(3, 1, 1, 0), 2);
        y.coin(1, 1);
        Check.due("COIN of NOW", y.broke(3, 21, 1, 0), 2);
        y.coin(4, 1000);
        y.go(1);
        Check.due("not the BANNED one itself, though of its HOUSE", y.broke(4, 1, 1, 0), 2);
        Check.text(y, 0, "strike 0 clause 0");
        Check.due("BANNED up to the end of the WEEK", y.broke(3, 1, 1, 0), 2);
        y.go(1);
        Check.due("BANNED no more", y.broke(3, 1, 1, 0), NONE);
    }

    private static void numbersOfLast() {
        Check.part("31: NONE for numbers that can't be (pence 1 .. 10,000; n, more 0 .. 1000)");
        NoRent x = new NoRent();
        x.give(5);
        int[][] bad = {{0, 1, 1}, {-1, 1, 1}, {10_001, 1, 1}, {MIN, 1, 1}, {MAX, 1, 1}, {1, -1, 1}, {1, 1001, 1}, {1, MIN, 1}, {1, MAX, 1},
            {1, 1, -1}, {1, 1, 1001}, {1, 1, MIN}, {1, 1, MAX}};
        for (int[] b : bad) {
            Check.due("last(" + b[0] + ", " + b[1] + ", " + b[2] + ")", x.last(b[0], b[1], b[2]), NONE);
        }
        int[][] good = {{1, 1, 0, 5}, {10_000, 1, 0, 0}, {1, 0, 0, 400}, {1, 1000, 0, 0}, {1, 0, 1000, 1}, {10_000, 0, 1000, 1}};
        for (int[] g : good) {
            Check.due("last(" + g[0] + ", " + g[1] + ", " + g[2] + ")", x.last(g[0], g[1], g[2]), g[3]);
        }
    }

    private static void chosenOfTheLatest() {
        Check.part("39: the latest BEST's choice of a WISH; NONE");
        NoRent x = Scenes.tenants(2, 100);
        x.field(0, 10, 100, 0);
        x.guard(0, 0, 399);
        Check.text(x, 0, "fair 0");
        Check.due("ahead of any", x.chosen(0), NONE);
        x.wish(0);
        x.wish(2);
        Check.due("without CROPS", x.choose(30), NONE);
        Check.due("still none", x.chosen(0), NONE);
        x.crops(0, 0);
        Check.due("by KEEPING for what is GUARDED", x.choose(30), 0);
        Check.due("first", x.chosen(0), 1);
        Check.due("second", x.chosen(1), 0);
        Check.due("third", x.chosen(2), NONE);
        Check.due("below", x.chosen(-1), NONE);
        Check.due("refused", x.choose(0), NONE);
        x.wish(1);
        Check.due("the latest is as it was", x.chosen(0), 1);
        Check.due("of two", x.chosen(2), NONE);
        x.judge(2, 30);
        Check.due("judge chooses nothing", x.chosen(0), 1);
        x.clear();
        Check.due("behind clear", x.chosen(0), 1);
        Check.due("without CROPS", x.choose(30), NONE);
        Check.due("the latest is as it was", x.chosen(0), 1);
        x.crops(0, 0);
        Check.due("no WISHES: the CROPS alone", x.choose(30), 1);
        Check.due("of none", x.chosen(0), NONE);
    }

    private static void aWishNotThereAnyMore() {
        Check.part("38, 40: NONE, if a WISHED FIELD is not there any more");
        NoRent x = Scenes.tenants(1, 0);
        x.image(0);
        x.field(0, 1, 0, 0);
        x.field(0, 1, 0, 0);
        x.wish(0);
        x.wish(2);
        x.crops(0, 0);
        Check.due("there", x.judge(0, 30), 1);
        Check.due("there", x.choose(30), 1);
        x.back(0);
        Check.due("both are gone", x.judge(0, 30), NONE);
        Check.due("both are gone", x.choose(30), NONE);
        Check.due("the WISH stays", x.count(8), 2);
        Check.due("the latest BEST stays", x.chosen(1), 0);
        x.field(0, 1, 0, 0);
        Check.due("one is gone", x.judge(0, 30), NONE);
        x.field(0, 1, 0, 0);
        Check.due("none is gone", x.judge(0, 30), 1);
        x.back(0);
        x.clear();
        x.crops(0, 0);
        Check.due("no WISHES any more", x.judge(0, 30), 1);
        x.field(0, 1, 0, 0);
        x.wish(1);
        x.wish(0);
        x.back(0);
        Check.due("the first alone is gone", x.judge(0, 30), NONE);
    }

    private static void aWishThatHasNoHolderAnyMore() {
        Check.part("35, 38, 40: a WISHED FIELD that has no HOLDER any more is still there");
        NoRent x = Scenes.tenants(2, 0);
        Check.text(x, 0, Scenes.QUICK);
        x.wish(0);
        x.wish(1);
        x.crops(0, 0);
        x.go(14);
        x.writ(0);
        x.go(5);
        Check.due("it has none", x.tells(0, 0), NONE);
        for (int bits = 0; bits < 4; bits++) {
            Check.due("the other is put OUT", x.judge(bits, 30), 1);
        }
        Check.due("chosen", x.choose(30), 1);
        Check.due("wished again", x.wish(0), -3);
        Check.due("wished again", x.wish(1), -4);
        Check.due("two", x.count(8), 2);
    }

    private static void clear() {
        Check.part("36: clear");
        NoRent x = Scenes.tenants(3, 0);
        for (int n = 0; n < 4; n++) {
            for (int f = 0; f < n; f++) {
                Check.due("wish", x.wish(f), f + 1);
                Check.due("crops", x.crops(f, f), f + 1);
            }
            Check.due("how many there were", x.clear(), n);
            Check.due("none", x.count(8), 0);
            Check.due("none", x.clear(), 0);
        }
    }

    private static void statusOfTheLatest() {
        Check.part("48: what the latest call was REFUSED by; 0 if it was not, or ahead of any");
        NoRent x = county();
        Check.due("", x.status(), 0);
        int[] good = {x.person(0, 0, 0), ok(x), x.heed(0, 4), ok(x), x.goes(0, 0), ok(x), x.coin(0, 1), ok(x), x.give(1), ok(x),
            x.estate(1, 1), ok(x), x.field(0, 1, 0, 0), ok(x), x.price(0, 0), ok(x), Check.row(x, 19, 0, 1), ok(x), Check.text(x, 0, "keep"), ok(x),
            x.avoid(0), ok(x), x.writ(0), ok(x), x.guard(0, 0, 0), ok(x), x.take(0, 3, 1), ok(x), x.go(1), ok(x), x.deal(0, 3, 1), ok(x),
            x.brave(1), ok(x), x.offer(0, 0), ok(x), x.wish(4), ok(x), x.crops(0, 0), ok(x), x.alter(0, 1), ok(x), x.image(1), ok(x), x.back(1), ok(x)};
        for (int i = 0; i < good.length; i += 2) {
            Check.due("good call " + i / 2 + " is not refused", good[i] >= 0);
            Check.due("status of good call " + i / 2, good[i + 1], 0);
        }
    }

    /** status(), and something refused behind it. */
    private static int ok(NoRent x) {
        int status = x.status();
        x.brave(102);
        return status;
    }

    private static void statusIsOfTheseAlone() {
        Check.part("48: of no other call");
        NoRent x = county();
        x.heed(0, 0);
        x.of(0, 0);
        x.of(-1, 0);
        x.tells(0, 0);
        x.tells(-1, 0);
        x.owner(0, 0);
        x.owner(9, 0);
        x.fund();
        x.crop(0, 0);
        x.feed(0, 0, 0, 0, 0);
        x.end(0);
        x.end(-1);
        x.fault();
        x.force(0, 0, 0);
        x.force(9, 9, 9);
        x.holds(0, 0, 0, 0);
        x.holds(9, 9, 9, 9);
        x.keeps(0, 1);
        x.keeps(0, 0);
        x.broke(0, 1, 1, 1);
        x.last(1, 1, 1);
        x.last(0, 0, 0);
        x.least(0, 2);
        x.least(0, 0);
        x.agree(0, 0);
        x.choose(1);
        x.choose(0);
        x.chosen(0);
        x.judge(0, 1);
        x.judge(9, 9);
        Check.tape(x, "keep");
        x.beside(1);
        x.beside(0);
        x.clear();
        x.seal();
        x.found();
        x.count(0);
        x.count(-1);
        x.status();
        Check.due("of heed still", x.status(), -3);
        x.coin(0, 0);
        Check.due("of coin", x.status(), 0);
        x.end(-1);
        x.choose(0);
        x.beside(0);
        Check.due("of coin still", x.status(), 0);
    }

    /** 40 PERSONS, 8 ESTATES, 40 FIELDS, 20 TEXTS of 12 CLAUSES, 40 GUARDS, 60 WRITS, 9 OFFERS, 6 WISHES, 3 CROPS. */
    private static void everythingFull() {
        Check.part("I to IV: everything is full, and all of it is asked");
        NoRent x = Scenes.tenants(40, 0);
        for (int i = 1; i < 8; i++) {
            x.estate(0, 0);
        }
        for (int i = 0; i < 40; i++) {
            x.guard(39, 15, 15);
        }
        for (int i = 0; i < 20; i++) {
            String text = "fair 9;ban if banned;draw 1;grab;keep if kin>9;ban if grabs;fair 8;step 3 4;draw 1;grab;keep if kin>9;fair week";
            Check.due("text", Check.text(x, 0, text), i);
        }
        x.go(14);
        for (int f = 0; f < 40; f++) {
            Check.due("writ", x.writ(f), f + 1);
        }
        for (int i = 41; i <= 60; i++) {
            x.avoid(0);
            Check.due("writ", x.writ(0), i);
        }
        for (int i = 0; i < 9; i++) {
            x.offer(100, 100);
        }
        for (int i = 0; i < 6; i++) {
            x.wish(39 - i);
            x.crops(0, 0);
        }
        x.give(10_000_000);
        Check.due("FAIR of the last", x.tells(39, 3), 14);
        Check.due("the last CLAUSE of the last TEXT", x.holds(19, 11, 39, 39), 1);
        Check.due("LEAST of the first ESTATE", x.least(0, 9), NONE);
        Check.due("BEST of the OFFERS", x.agree(900, 900), 511);
        Check.due("one of kin is not above 9", x.tells(39, 4), 0);
        Check.due("CHOICES up to WEEK 30", x.choose(17), 39);
        Check.due("CHOICES up to WEEK 31", x.judge(63, 18), 40);
        x.image(1);
        x.go(17);
        Check.due("out", x.of(38, 4), 30);
        Check.due("not the one that was GUARDED", x.of(39, 4), NONE);
        Check.due("40 CLAUSES draw", x.of(38, 1), 40);
        Check.due("for 39", x.fund(), 10_000_000 - 39 * 40);
        x.go(1);
        Check.due("nor that one any more", x.of(39, 4), 31);
        x.goes(39, 0);
        Check.due("GRAB", x.take(39, 38, 0), 0);
        x.go(1);
        Check.due("BANNED, as it grabs", x.of(39, 3), 1);
        Check.due("who may have sold", x.broke(39, 1, 1, 0), 39);
        Check.due("the last of them", x.broke(39, 1, 2, 38), 38);
        Check.due("back", x.back(1), 0);
        Check.due("nobody is out", x.of(38, 4), NONE);
    }

    private static void fullOnPaper() {
        Check.part("41: with 19 TEXTS the one TRIED is the twentieth");
        NoRent x = Scenes.tenants(1, 1000);
        for (int i = 0; i < 19; i++) {
            Check.text(x, 0, "fair 50;keep;step 0 3;draw 1;ban;grab");
        }
        Check.tape(x, "fair 20");
        Check.due("told last", x.beside(14), -30);
        Check.tape(x, "strike 18 clause 0;strike 17 clause 0;fair 100;ban if banned");
        Check.due("told last", x.beside(14), 50);
        Check.due("still 19", x.count(4), 19);
    }
}
