import java.util.Arrays;

/**
 * A county that holds back its rents, week by week: the document is ../shared/DOC.md, and the words
 * in capitals there are the names here.
 */
public final class NoRent {
    /** There is none. */
    public static final int NONE = -1;

    private static final long NOTHING = -2_000_000_000_000L;

    private static final int BAD_NUMBER = -1;
    private static final int NO_SUCH = -2;
    private static final int CANT_BE = -3;
    private static final int TWICE = -4;
    private static final int NO_ROOM = -5;
    private static final int UNREADABLE = -6;

    private static final int WEEKS = 400;
    private static final int LAST_WEEK = 399;
    private static final int LONGEST_GO = 104;
    private static final int QUARTER = 13;
    private static final int PERSONS = 40;
    private static final int HOUSES = 20;
    private static final int ESTATES = 8;
    private static final int FIELDS = 40;
    private static final int WRITS = 60;
    private static final int GUARDS = 40;
    private static final int DEALS = 200;
    private static final int TEXTS = 20;
    private static final int CLAUSES = 12;
    private static final int OFFERS = 9;
    private static final int WISHES = 6;
    private static final int CROPS = 3;
    private static final int TAPE = 400;
    private static final int LAST_STEP = 3;

    private static final int MILLION = 1_000_000;
    private static final int TEN_MILLION = 10_000_000;
    private static final int MOST_FUND = 100_000_000;
    private static final int MOST_RENT = 100_000;
    private static final int MOST_PENCE = 10_000;
    private static final int USUAL_PRICE = 100;
    private static final int USUAL_STEP = 4;
    private static final int MOST_NUMBER = 100_000;
    private static final int MOST_LEAVES = 50;
    private static final int MOST_BRACKETS = 8;

    private static final int IN_HOUSE = 0;
    private static final int ON_ROAD = 1;
    private static final int DEAD = 4;

    /** No SUM comes near it: FARTHEST bounds them. */
    private static final long BROKEN = -4_000_000_000_000_000_000L;
    private static final long FARTHEST = 1_000_000_000L;
    /** More than one TEXT's numbers and words can pile up. */
    private static final int STACK = 64;

    // Tokens, and the instructions made of them: a single byte is itself, a word is FIRST_WORD and
    // its place in WORDS. Their order matters: PLAINS, then PARTS; of PERSONS, then of FIELDS, then of neither.
    private static final String WORDS =
            "strike clause step if fair draw keep ban grab or and not holds out banned grabs coin sacks fear house kin worth rent arrear estate week price ";
    private static final int FIRST_WORD = 256;
    private static final int WORD_STRIKE = 256;
    private static final int WORD_CLAUSE = 257;
    private static final int WORD_STEP = 258;
    private static final int WORD_IF = 259;
    private static final int WORD_FAIR = 260;
    private static final int WORD_DRAW = 261;
    private static final int WORD_KEEP = 262;
    private static final int WORD_BAN = 263;
    private static final int WORD_GRAB = 264;
    private static final int WORD_OR = 265;
    private static final int WORD_AND = 266;
    private static final int WORD_NOT = 267;
    private static final int WORD_HOLDS = 268;
    private static final int WORD_OUT = 269;
    private static final int WORD_BANNED = 270;
    private static final int WORD_GRABS = 271;
    private static final int WORD_COIN = 272;
    private static final int WORD_SACKS = 273;
    private static final int WORD_FEAR = 274;
    private static final int WORD_HOUSE = 275;
    private static final int WORD_KIN = 276;
    private static final int WORD_WORTH = 277;
    private static final int WORD_RENT = 278;
    private static final int WORD_ARREAR = 279;
    private static final int WORD_ESTATE = 280;
    private static final int WORD_WEEK = 281;
    private static final int WORD_PRICE = 282;
    private static final int NO_WORD = 300;
    private static final int NUMBER = 301;
    private static final int END = 302;

    private final County county = new County(false);
    private final County paper = new County(true);
    private final County firstImage = new County(false);
    private final County secondImage = new County(false);
    private boolean firstKept;
    private boolean secondKept;
    private final Tape tape = new Tape();
    private final Reader reader = new Reader();
    private final int[] wished = new int[WISHES];
    private int wishes;
    private final int[] cropPrice = new int[CROPS];
    private final int[] cropSacks = new int[CROPS];
    private int cropsTold;
    private final int[] best = new int[WISHES];
    private int bestLength;
    private int refusal;

    public NoRent() {
    }

    public int person(int house, int coin, int fear) {
        if (!within(house, 0, HOUSES - 1) || !within(coin, 0, MILLION) || !within(fear, 0, 100)) {
            return refuse(BAD_NUMBER);
        }
        if (county.people.count >= PERSONS) {
            return refuse(NO_ROOM);
        }
        return accept(county.people.add(house, coin, fear));
    }

    public int heed(int person, int whom) {
        People people = county.people;
        if (!people.has(person) || whom != NONE && !people.has(whom)) {
            return refuse(NO_SUCH);
        }
        if (person == whom) {
            return refuse(CANT_BE);
        }
        people.heeds[person] = whom;
        return accept(0);
    }

    public int goes(int person, int state) {
        People people = county.people;
        if (!within(state, IN_HOUSE, DEAD)) {
            return refuse(BAD_NUMBER);
        }
        if (!people.has(person)) {
            return refuse(NO_SUCH);
        }
        if (people.state[person] == DEAD) {
            return refuse(CANT_BE);
        }
        people.state[person] = state;
        return accept(0);
    }

    public int coin(int person, int pence) {
        People people = county.people;
        if (!within(pence, 0, MILLION)) {
            return refuse(BAD_NUMBER);
        }
        if (!people.has(person)) {
            return refuse(NO_SUCH);
        }
        people.gain(person, pence);
        return accept(people.coin[person]);
    }

    public int give(int pence) {
        if (!within(pence, 0, TEN_MILLION)) {
            return refuse(BAD_NUMBER);
        }
        League league = county.league;
        league.fund = Math.min(league.fund + pence, MOST_FUND);
        return accept(league.fund);
    }

    public int estate(int chest, int mortgage) {
        if (!within(chest, 0, TEN_MILLION) || !within(mortgage, 0, MILLION)) {
            return refuse(BAD_NUMBER);
        }
        if (county.land.estates >= ESTATES) {
            return refuse(NO_ROOM);
        }
        return accept(county.land.addEstate(chest, mortgage));
    }

    public int field(int estate, int worth, int rent, int holder) {
        People people = county.people;
        if (!within(worth, 1, 1000) || !within(rent, 0, MOST_RENT)) {
            return refuse(BAD_NUMBER);
        }
        if (!county.land.hasEstate(estate) || holder != NONE && !people.has(holder)) {
            return refuse(NO_SUCH);
        }
        if (holder != NONE && people.state[holder] != IN_HOUSE) {
            return refuse(CANT_BE);
        }
        if (county.land.count >= FIELDS) {
            return refuse(NO_ROOM);
        }
        int field = county.land.addField(estate, worth, rent);
        if (holder != NONE) {
            county.settle(holder, field, 0);
        }
        return accept(field);
    }

    public int of(int person, int what) {
        People people = county.people;
        if (!people.has(person)) {
            return NONE;
        }
        switch (what) {
            case 0:
                return people.state[person];
            case 1:
                return people.coin[person];
            case 2:
                return people.sacks[person];
            case 3:
                return people.banned[person];
            case 4:
                return people.outSince[person];
            case 5:
                return people.kinOf(person);
            default:
                return NONE;
        }
    }

    public int tells(int field, int what) {
        Land land = county.land;
        if (!land.has(field)) {
            return NONE;
        }
        county.lookAtNow();
        switch (what) {
            case 0:
                return land.holder[field];
            case 1:
                return land.rent[field];
            case 2:
                return land.arrear[field];
            case 3:
                return land.holder[field] == NONE ? NONE : county.fairOf(field);
            case 4:
                return county.keepsFor(land.holder[field], field) ? 1 : 0;
            case 5:
                return county.writs.stepOf(field);
            case 6:
                return county.writs.leftOf(field);
            case 7:
                return land.emptied[field];
            default:
                return NONE;
        }
    }

    public int owner(int estate, int what) {
        Land land = county.land;
        if (!land.hasEstate(estate)) {
            return NONE;
        }
        switch (what) {
            case 0:
                return land.chest[estate];
            case 1:
                return land.fallen[estate];
            default:
                return NONE;
        }
    }

    public int fund() {
        return county.league.fund;
    }

    public int price(int week, int price) {
        if (!isWeek(week) || !within(price, 0, MOST_PENCE)) {
            return refuse(BAD_NUMBER);
        }
        county.seasons.price[week] = price;
        return accept(0);
    }

    public int row(int week, int from) {
        int why = whyNoRow(week, from);
        int numbers = why == 0 ? keepRow(week, from) : 0;
        // Behind every row(), a refused one too.
        tape.length = 0;
        return why == 0 ? accept(numbers) : refuse(why);
    }

    public int crop(int field, int week) {
        if (!county.land.has(field) || !isWeek(week)) {
            return NONE;
        }
        return county.seasons.sacksOf(field, week);
    }

    public int feed(int a, int b, int c, int d, int e) {
        if (tape.length + 20 > TAPE) {
            return NONE;
        }
        tape.append(a);
        tape.append(b);
        tape.append(c);
        tape.append(d);
        tape.append(e);
        return tape.length;
    }

    public int end(int n) {
        if (!within(n, 0, tape.length)) {
            return NONE;
        }
        tape.length = n;
        return n;
    }

    public int text(int from) {
        if (!isWeek(from)) {
            return refuse(BAD_NUMBER);
        }
        if (county.law.count >= TEXTS) {
            return refuse(NO_ROOM);
        }
        Text text = reader.read(tape, from);
        tape.length = 0;
        if (text == null) {
            return refuse(UNREADABLE);
        }
        return accept(county.law.add(text));
    }

    public int fault() {
        return reader.fault;
    }

    public int force(int text, int clause, int week) {
        Law law = county.law;
        if (!law.has(text, clause) || !isWeek(week)) {
            return NONE;
        }
        law.mark(week);
        return law.isInForce(text, clause) ? 1 : 0;
    }

    public int holds(int text, int clause, int person, int field) {
        if (!county.law.has(text, clause) || person != NONE && !county.people.has(person)
                || field != NONE && !county.land.has(field)) {
            return NONE;
        }
        county.lookAtNow();
        return county.clauseHolds(text, clause, person, field) ? 1 : 0;
    }

    public int writ(int field) {
        Land land = county.land;
        Writs writs = county.writs;
        if (!land.has(field)) {
            return refuse(NO_SUCH);
        }
        if (land.holder[field] == NONE || land.arrear[field] == 0 || writs.openOn(field) != NONE) {
            return refuse(CANT_BE);
        }
        if (writs.count >= WRITS) {
            return refuse(NO_ROOM);
        }
        county.lookAtNow();
        writs.add(field, land.holder[field], county.law.weeksOf(0), county.now);
        return accept(writs.count);
    }

    public int avoid(int field) {
        if (!county.land.has(field)) {
            return refuse(NO_SUCH);
        }
        int writ = county.writs.openOn(field);
        if (writ == NONE) {
            return refuse(CANT_BE);
        }
        county.writs.open[writ] = 0;
        return accept(0);
    }

    public int guard(int field, int from, int to) {
        Writs writs = county.writs;
        if (!isWeek(from) || !isWeek(to) || from > to) {
            return refuse(BAD_NUMBER);
        }
        if (!county.land.has(field)) {
            return refuse(NO_SUCH);
        }
        if (writs.guards >= GUARDS) {
            return refuse(NO_ROOM);
        }
        writs.addGuard(field, from, to);
        return accept(writs.guards);
    }

    public int take(int person, int field, int what) {
        Land land = county.land;
        if (!within(what, 0, 1)) {
            return refuse(BAD_NUMBER);
        }
        if (!county.people.has(person) || !land.has(field)) {
            return refuse(NO_SUCH);
        }
        boolean grab = what == 0;
        boolean emptied = land.emptied[field] == 1;
        if (county.people.state[person] != IN_HOUSE || land.holder[field] != NONE || grab != emptied) {
            return refuse(CANT_BE);
        }
        county.lookAtNow();
        if (grab && !county.anyHolds(WORD_GRAB, person, field)) {
            return refuse(CANT_BE);
        }
        county.settle(person, field, grab ? 1 : 0);
        return accept(0);
    }

    public int go(int weeks) {
        if (!canGo(weeks)) {
            return refuse(BAD_NUMBER);
        }
        for (int i = 0; i < weeks; i++) {
            county.passWeek();
        }
        return accept(county.now);
    }

    public int deal(int seller, int buyer, int pence) {
        People people = county.people;
        League league = county.league;
        if (!within(pence, 1, MOST_PENCE)) {
            return refuse(BAD_NUMBER);
        }
        if (!people.has(seller) || !people.has(buyer)) {
            return refuse(NO_SUCH);
        }
        if (seller == buyer || people.coin[buyer] < pence || !people.isAbout(seller) || !people.isAbout(buyer)
                || people.banned[buyer] == 1 && people.keepsBan(seller, buyer, league.brave)) {
            return refuse(CANT_BE);
        }
        if (league.deals >= DEALS) {
            return refuse(NO_ROOM);
        }
        people.coin[buyer] -= pence;
        people.gain(seller, pence);
        league.deals++;
        return accept(league.deals);
    }

    public int brave(int n) {
        if (!within(n, 0, 101)) {
            return refuse(BAD_NUMBER);
        }
        int before = county.league.brave;
        county.league.brave = n;
        return accept(before);
    }

    public int keeps(int person, int whom) {
        People people = county.people;
        if (!people.has(person) || !people.has(whom) || person == whom) {
            return NONE;
        }
        return people.keepsBan(person, whom, county.league.brave) ? 1 : 0;
    }

    public int broke(int person, int pence, int what, int i) {
        People people = county.people;
        if (!people.has(person) || people.banned[person] == 0 || !within(pence, 1, MOST_PENCE)
                || !within(what, 0, 2)) {
            return NONE;
        }
        int may = 0;
        int asked = NONE;
        int wanted = what == 2 ? i : 0;
        for (int p = 0; p < people.count; p++) {
            if (people.maySell(p, person, pence, county.league.brave)) {
                asked = may == wanted ? p : asked;
                may++;
            }
        }
        if (what == 1) {
            return may;
        }
        return what == 0 && may != 1 ? NONE : asked;
    }

    public int last(int pence, int n, int more) {
        if (!within(pence, 1, MOST_PENCE) || !within(n, 0, 1000) || !within(more, 0, 1000)) {
            return NONE;
        }
        long left = county.league.fund;
        long drawers = n;
        for (int week = 0; week < WEEKS; week++) {
            left -= pence * drawers;
            if (left < 0) {
                return week;
            }
            drawers += more;
        }
        return WEEKS;
    }

    public int least(int estate, int q) {
        int quarter = county.now / QUARTER;
        if (!within(q, quarter + 1, quarter + 8) || !county.land.hasEstate(estate)
                || county.land.fallen[estate] != NONE) {
            return NONE;
        }
        county.lookAtNow();
        return county.fewestKept(estate, q - quarter);
    }

    public int offer(int league, int owners) {
        if (!within(league, -1000, 1000) || !within(owners, -1000, 1000)) {
            return refuse(BAD_NUMBER);
        }
        if (county.league.offers >= OFFERS) {
            return refuse(NO_ROOM);
        }
        return accept(county.league.addOffer(league, owners));
    }

    public int agree(int league, int owners) {
        if (!within(league, -10_000, 10_000) || !within(owners, -10_000, 10_000)) {
            return NONE;
        }
        return county.league.bestSet(league, owners);
    }

    public int wish(int field) {
        if (!county.land.has(field)) {
            return refuse(NO_SUCH);
        }
        if (county.land.holder[field] == NONE) {
            return refuse(CANT_BE);
        }
        if (isWished(field)) {
            return refuse(TWICE);
        }
        if (wishes >= WISHES) {
            return refuse(NO_ROOM);
        }
        wished[wishes] = field;
        wishes++;
        return accept(wishes);
    }

    public int clear() {
        int before = wishes;
        wishes = 0;
        cropsTold = 0;
        return before;
    }

    public int crops(int price, int sacks) {
        if (!within(price, 0, MOST_PENCE) || !within(sacks, 0, 10_000)) {
            return refuse(BAD_NUMBER);
        }
        if (cropsTold >= CROPS) {
            return refuse(NO_ROOM);
        }
        cropPrice[cropsTold] = price;
        cropSacks[cropsTold] = sacks;
        cropsTold++;
        return accept(cropsTold);
    }

    public int choose(int weeks) {
        if (!canChoose(weeks)) {
            return NONE;
        }
        int leastWorst = FIELDS + 1;
        int bestBits = 0;
        // In this order the first row with the least WORST is the BEST, and none is better than 0.
        for (int keeping = 0; keeping <= wishes && leastWorst > 0; keeping++) {
            for (int row = 0; row < 1 << wishes && leastWorst > 0; row++) {
                if (Integer.bitCount(row) != keeping) {
                    continue;
                }
                int bits = bitsOfRow(row);
                int worst = worstOf(bits, weeks, leastWorst);
                if (worst < leastWorst) {
                    leastWorst = worst;
                    bestBits = bits;
                }
            }
        }
        for (int i = 0; i < wishes; i++) {
            best[i] = bestBits >> i & 1;
        }
        bestLength = wishes;
        return leastWorst;
    }

    public int chosen(int wish) {
        return within(wish, 0, bestLength - 1) ? best[wish] : NONE;
    }

    public int judge(int bits, int weeks) {
        if (!canChoose(weeks) || !within(bits, 0, (1 << wishes) - 1)) {
            return NONE;
        }
        return worstOf(bits, weeks, FIELDS + 1);
    }

    public long beside(int weeks) {
        boolean reads = canGo(weeks) && county.law.count < TEXTS;
        Text text = reads ? reader.read(tape, county.now) : null;
        // Behind every beside(), one that read nothing too.
        tape.length = 0;
        return text == null ? NOTHING : gotOnPaper(weeks, text) - gotOnPaper(weeks, null);
    }

    public int seal() {
        county.land.keepSums();
        return county.land.count;
    }

    public int alter(int field, int mask) {
        if (!within(mask, 1, 255)) {
            return refuse(BAD_NUMBER);
        }
        if (!county.land.has(field)) {
            return refuse(NO_SUCH);
        }
        county.land.rent[field] ^= mask;
        return accept(county.land.rent[field]);
    }

    public int found() {
        return county.land.findAltered();
    }

    public int image(int k) {
        if (!within(k, 0, 1)) {
            return refuse(BAD_NUMBER);
        }
        if (k == 0) {
            firstImage.copyFrom(county);
            firstKept = true;
        } else {
            secondImage.copyFrom(county);
            secondKept = true;
        }
        return accept(0);
    }

    public int back(int k) {
        if (!within(k, 0, 1)) {
            return refuse(BAD_NUMBER);
        }
        if (k == 0 ? !firstKept : !secondKept) {
            return refuse(NO_SUCH);
        }
        county.copyFrom(k == 0 ? firstImage : secondImage);
        return accept(0);
    }

    public int count(int what) {
        switch (what) {
            case 0:
                return county.now;
            case 1:
                return county.people.count;
            case 2:
                return county.land.estates;
            case 3:
                return county.land.count;
            case 4:
                return county.law.count;
            case 5:
                return county.writs.count;
            case 6:
                return county.league.deals;
            case 7:
                return county.league.offers;
            case 8:
                return wishes;
            case 9:
                return tape.length;
            default:
                return NONE;
        }
    }

    public int status() {
        return refusal;
    }

    private int refuse(int why) {
        refusal = why;
        return why;
    }

    private int accept(int answer) {
        refusal = 0;
        return answer;
    }

    private static boolean within(int x, int low, int high) {
        return x >= low && x <= high;
    }

    private static boolean isWeek(int week) {
        return week >= 0 && week <= LAST_WEEK;
    }

    private boolean canGo(int weeks) {
        return within(weeks, 1, LONGEST_GO) && county.now + weeks <= LAST_WEEK;
    }

    /** What a ROW of the TAPE is refused by; 0 if it is not. */
    private int whyNoRow(int week, int from) {
        if (!isWeek(week)) {
            return BAD_NUMBER;
        }
        if (!county.land.has(from)) {
            return NO_SUCH;
        }
        if (week < county.now) {
            return CANT_BE;
        }
        if (county.seasons.rows[week] != null) {
            return TWICE;
        }
        int floats = tape.floats();
        return floats == 0 || floats > county.land.count - from ? UNREADABLE : 0;
    }

    private int keepRow(int week, int from) {
        Land land = county.land;
        Row row = new Row(from, tape.readNumbers());
        for (int i = 0; i < row.sacks.length && from + i < land.count; i++) {
            row.sacks[i] = (int) (tape.numberOf(i) * land.worth[from + i] / 100);
        }
        county.seasons.rows[week] = row;
        return row.sacks.length;
    }

    private boolean isWished(int field) {
        for (int i = 0; i < wishes; i++) {
            if (wished[i] == field) {
                return true;
            }
        }
        return false;
    }

    private boolean canChoose(int weeks) {
        if (!canGo(weeks) || cropsTold == 0) {
            return false;
        }
        // BACK to an IMAGE may have taken FIELDS away, but no WISHES.
        for (int i = 0; i < wishes; i++) {
            if (!county.land.has(wished[i])) {
                return false;
            }
        }
        return true;
    }

    /** A row counts its first WISH highest, so that rows go up as they stand; bits count it lowest. */
    private int bitsOfRow(int row) {
        int bits = 0;
        for (int i = 0; i < wishes; i++) {
            bits |= (row >> i & 1) << (wishes - 1 - i);
        }
        return bits;
    }

    /** WORST, but no further than to a number that is bad enough. On paper a FIELD is lost but once. */
    private int worstOf(int bits, int weeks, int enough) {
        int worst = 0;
        for (int c = 0; c < cropsTold && worst < enough; c++) {
            paper.copyFrom(county);
            paper.tellCrops(cropPrice[c], cropSacks[c]);
            for (int i = 0; i < wishes; i++) {
                paper.choice[wished[i]] = bits >> i & 1;
            }
            for (int week = 0; week < weeks && paper.outs < enough; week++) {
                paper.passWeek();
            }
            worst = Math.max(worst, paper.outs);
        }
        return worst;
    }

    private long gotOnPaper(int weeks, Text besides) {
        paper.copyFrom(county);
        if (besides != null) {
            paper.law.add(besides);
        }
        for (int week = 0; week < weeks; week++) {
            paper.passWeek();
        }
        return paper.got;
    }

    /** Those who live in the county. */
    private static final class People {
        int count;
        final int[] house = new int[PERSONS];
        final int[] coin = new int[PERSONS];
        final int[] fear = new int[PERSONS];
        final int[] heeds = new int[PERSONS];
        final int[] sacks = new int[PERSONS];
        final int[] state = new int[PERSONS];
        final int[] outSince = new int[PERSONS];
        final int[] banned = new int[PERSONS];
        /** Bans of the WEEK's end: "banned" still asks for the old ones while these are found. */
        final int[] bannedNext = new int[PERSONS];

        boolean has(int person) {
            return person >= 0 && person < count;
        }

        int add(int itsHouse, int itsCoin, int itsFear) {
            if (count >= PERSONS) {
                return NONE;
            }
            int person = count;
            house[person] = itsHouse;
            coin[person] = itsCoin;
            fear[person] = itsFear;
            heeds[person] = NONE;
            sacks[person] = 0;
            state[person] = IN_HOUSE;
            outSince[person] = NONE;
            banned[person] = 0;
            count++;
            return person;
        }

        void gain(int person, int pence) {
            coin[person] = Math.min(coin[person] + pence, TEN_MILLION);
        }

        boolean isAbout(int person) {
            return state[person] == IN_HOUSE || state[person] == ON_ROAD;
        }

        int kinOf(int person) {
            int kin = 0;
            for (int p = 0; p < count; p++) {
                if (p != person && house[p] == house[person] && state[p] == IN_HOUSE) {
                    kin++;
                }
            }
            return kin;
        }

        boolean keepsBan(int person, int whom, int brave) {
            if (house[person] == house[whom]) {
                return false;
            }
            int heeded = person;
            for (int i = 0; i <= PERSONS && has(heeded); i++) {
                if (fear[heeded] >= brave) {
                    return true;
                }
                heeded = heeds[heeded];
            }
            return false;
        }

        boolean maySell(int person, int buyer, int pence, int brave) {
            return person != buyer && isAbout(person) && coin[person] >= pence && !keepsBan(person, buyer, brave);
        }

        void copyFrom(People other) {
            count = other.count;
            System.arraycopy(other.house, 0, house, 0, PERSONS);
            System.arraycopy(other.coin, 0, coin, 0, PERSONS);
            System.arraycopy(other.fear, 0, fear, 0, PERSONS);
            System.arraycopy(other.heeds, 0, heeds, 0, PERSONS);
            System.arraycopy(other.sacks, 0, sacks, 0, PERSONS);
            System.arraycopy(other.state, 0, state, 0, PERSONS);
            System.arraycopy(other.outSince, 0, outSince, 0, PERSONS);
            System.arraycopy(other.banned, 0, banned, 0, PERSONS);
        }
    }

    /** Fields, the estates that they are of, and the seal on their rents. */
    private static final class Land {
        int count;
        final int[] estate = new int[FIELDS];
        final int[] worth = new int[FIELDS];
        final int[] rent = new int[FIELDS];
        final int[] holder = new int[FIELDS];
        final int[] arrear = new int[FIELDS];
        final int[] grabbed = new int[FIELDS];
        /** 1 if somebody was put OUT of it, ever. */
        final int[] emptied = new int[FIELDS];

        int estates;
        final int[] chest = new int[ESTATES];
        final int[] mortgage = new int[ESTATES];
        final int[] fallen = new int[ESTATES];

        int sealedCount = NONE;
        long sealedSum;
        long sealedByPlace;

        boolean has(int field) {
            return field >= 0 && field < count;
        }

        boolean hasEstate(int e) {
            return e >= 0 && e < estates;
        }

        int addEstate(int itsChest, int itsMortgage) {
            if (estates >= ESTATES) {
                return NONE;
            }
            int added = estates;
            chest[added] = itsChest;
            mortgage[added] = itsMortgage;
            fallen[added] = NONE;
            estates++;
            return added;
        }

        int addField(int itsEstate, int itsWorth, int itsRent) {
            if (count >= FIELDS) {
                return NONE;
            }
            int field = count;
            estate[field] = itsEstate;
            worth[field] = itsWorth;
            rent[field] = itsRent;
            holder[field] = NONE;
            arrear[field] = 0;
            grabbed[field] = 0;
            emptied[field] = 0;
            count++;
            return field;
        }

        /** What counts as RENT: not below 0, whatever it was ALTERED to. */
        int rentOf(int field) {
            return Math.max(rent[field], 0);
        }

        boolean isHeldBy(int person) {
            for (int f = 0; f < count; f++) {
                if (holder[f] == person) {
                    return true;
                }
            }
            return false;
        }

        boolean isGrabbedBy(int person) {
            for (int f = 0; f < count; f++) {
                if (holder[f] == person && grabbed[f] == 1) {
                    return true;
                }
            }
            return false;
        }

        long sumOfRents() {
            long sum = 0;
            for (int f = 0; f < count; f++) {
                sum += rent[f];
            }
            return sum;
        }

        long sumByPlace() {
            long sum = 0;
            for (int f = 0; f < count; f++) {
                sum += (long) rent[f] * (f + 1);
            }
            return sum;
        }

        void keepSums() {
            sealedCount = count;
            sealedSum = sumOfRents();
            sealedByPlace = sumByPlace();
        }

        int findAltered() {
            if (sealedCount == NONE) {
                return CANT_BE;
            }
            if (count > sealedCount) {
                return NO_SUCH;
            }
            long off = sumOfRents() - sealedSum;
            long offByPlace = sumByPlace() - sealedByPlace;
            if (off == 0 && offByPlace == 0) {
                return NONE;
            }
            for (int f = 0; f < count; f++) {
                if (off * (f + 1) == offByPlace) {
                    return f;
                }
            }
            return NO_SUCH;
        }

        void copyFrom(Land other) {
            count = other.count;
            System.arraycopy(other.estate, 0, estate, 0, FIELDS);
            System.arraycopy(other.worth, 0, worth, 0, FIELDS);
            System.arraycopy(other.rent, 0, rent, 0, FIELDS);
            System.arraycopy(other.holder, 0, holder, 0, FIELDS);
            System.arraycopy(other.arrear, 0, arrear, 0, FIELDS);
            System.arraycopy(other.grabbed, 0, grabbed, 0, FIELDS);
            System.arraycopy(other.emptied, 0, emptied, 0, FIELDS);
            estates = other.estates;
            System.arraycopy(other.chest, 0, chest, 0, ESTATES);
            System.arraycopy(other.mortgage, 0, mortgage, 0, ESTATES);
            System.arraycopy(other.fallen, 0, fallen, 0, ESTATES);
            sealedCount = other.sealedCount;
            sealedSum = other.sealedSum;
            sealedByPlace = other.sealedByPlace;
        }
    }

    /** Writs as told, ended ones too, and the weeks in which fields are guarded against them. */
    private static final class Writs {
        int count;
        final int[] field = new int[WRITS];
        final int[] holder = new int[WRITS];
        final int[] step = new int[WRITS];
        final int[] left = new int[WRITS];
        final int[] toldIn = new int[WRITS];
        final int[] open = new int[WRITS];

        int guards;
        final int[] guardField = new int[GUARDS];
        final int[] guardFrom = new int[GUARDS];
        final int[] guardTo = new int[GUARDS];

        void add(int itsField, int itsHolder, int weeks, int now) {
            if (count >= WRITS) {
                return;
            }
            field[count] = itsField;
            holder[count] = itsHolder;
            step[count] = 0;
            left[count] = weeks;
            toldIn[count] = now;
            open[count] = 1;
            count++;
        }

        void addGuard(int itsField, int from, int to) {
            if (guards >= GUARDS) {
                return;
            }
            guardField[guards] = itsField;
            guardFrom[guards] = from;
            guardTo[guards] = to;
            guards++;
        }

        int openOn(int itsField) {
            for (int w = 0; w < count; w++) {
                if (open[w] == 1 && field[w] == itsField) {
                    return w;
                }
            }
            return NONE;
        }

        int stepOf(int itsField) {
            int writ = openOn(itsField);
            return writ == NONE ? NONE : step[writ];
        }

        int leftOf(int itsField) {
            int writ = openOn(itsField);
            return writ == NONE ? NONE : left[writ];
        }

        boolean isGuarded(int itsField, int week) {
            for (int g = 0; g < guards; g++) {
                if (guardField[g] == itsField && week >= guardFrom[g] && week <= guardTo[g]) {
                    return true;
                }
            }
            return false;
        }

        void copyFrom(Writs other) {
            count = other.count;
            System.arraycopy(other.field, 0, field, 0, WRITS);
            System.arraycopy(other.holder, 0, holder, 0, WRITS);
            System.arraycopy(other.step, 0, step, 0, WRITS);
            System.arraycopy(other.left, 0, left, 0, WRITS);
            System.arraycopy(other.toldIn, 0, toldIn, 0, WRITS);
            System.arraycopy(other.open, 0, open, 0, WRITS);
            guards = other.guards;
            System.arraycopy(other.guardField, 0, guardField, 0, GUARDS);
            System.arraycopy(other.guardFrom, 0, guardFrom, 0, GUARDS);
            System.arraycopy(other.guardTo, 0, guardTo, 0, GUARDS);
        }
    }

    /** Prices and crops as told, week by week. */
    private static final class Seasons {
        final int[] price = new int[WEEKS];
        final Row[] rows = new Row[WEEKS];

        Seasons() {
            Arrays.fill(price, NONE);
        }

        int priceIn(int week) {
            for (int w = Math.min(week, LAST_WEEK); w >= 0; w--) {
                if (price[w] != NONE) {
                    return price[w];
                }
            }
            return USUAL_PRICE;
        }

        int sacksOf(int field, int week) {
            Row row = rows[week];
            if (row == null || field < row.from || field - row.from >= row.sacks.length) {
                return NONE;
            }
            return row.sacks[field - row.from];
        }

        void copyFrom(Seasons other) {
            System.arraycopy(other.price, 0, price, 0, WEEKS);
            for (int w = 0; w < WEEKS; w++) {
                rows[w] = other.rows[w];
            }
        }
    }

    /** The crops of one week; never changed once told, so that images share it. */
    private static final class Row {
        final int from;
        final int[] sacks;

        Row(int from, int length) {
            this.from = from;
            this.sacks = new int[Math.max(length, 0)];
        }
    }

    /** The league's fund, its deals, and what it may agree on. */
    private static final class League {
        int fund;
        int brave = 50;
        int deals;
        int offers;
        final int[] toLeague = new int[OFFERS];
        final int[] toOwners = new int[OFFERS];

        int addOffer(int itsLeague, int itsOwners) {
            if (offers >= OFFERS) {
                return NONE;
            }
            toLeague[offers] = itsLeague;
            toOwners[offers] = itsOwners;
            offers++;
            return offers;
        }

        int bestSet(int atLeastLeague, int atLeastOwners) {
            int bestBits = NONE;
            int bestSum = 0;
            for (int bits = 0; bits < 1 << offers; bits++) {
                int league = sumOf(bits, toLeague);
                int owners = sumOf(bits, toOwners);
                if (league < atLeastLeague || owners < atLeastOwners) {
                    continue;
                }
                int fewer = bestBits == NONE ? 1 : Integer.bitCount(bestBits) - Integer.bitCount(bits);
                if (fewer > 0 || fewer == 0 && league + owners > bestSum) {
                    bestBits = bits;
                    bestSum = league + owners;
                }
            }
            return bestBits;
        }

        private int sumOf(int bits, int[] gives) {
            int sum = 0;
            for (int i = 0; i < offers && i < gives.length; i++) {
                sum += (bits >> i & 1) == 1 ? gives[i] : 0;
            }
            return sum;
        }

        void copyFrom(League other) {
            fund = other.fund;
            brave = other.brave;
            deals = other.deals;
            offers = other.offers;
            System.arraycopy(other.toLeague, 0, toLeague, 0, OFFERS);
            System.arraycopy(other.toOwners, 0, toOwners, 0, OFFERS);
        }
    }

    /** The texts told, and which of their clauses are in force in the week that was marked. */
    private static final class Law {
        int count;
        final Text[] texts = new Text[TEXTS];
        private final int[] inForce = new int[TEXTS];
        private final int[] struck = new int[TEXTS];

        int add(Text text) {
            if (count >= TEXTS) {
                return NONE;
            }
            texts[count] = text;
            count++;
            return count - 1;
        }

        boolean has(int t, int clause) {
            if (t < 0 || t >= count) {
                return false;
            }
            Text text = texts[t];
            return text != null && clause >= 0 && clause < text.clauses;
        }

        boolean isInForce(int t, int clause) {
            return (inForce[t] >> clause & 1) == 1;
        }

        /** From the last to the first: a text's strikes are known in force before what they strike. */
        void mark(int week) {
            Arrays.fill(struck, 0);
            for (int t = count - 1; t >= 0; t--) {
                Text text = texts[t];
                boolean begun = text != null && text.from <= week;
                inForce[t] = begun ? (1 << text.clauses) - 1 & ~struck[t] : 0;
                for (int c = 0; begun && c < text.clauses; c++) {
                    if (text.kind[c] == WORD_STRIKE && isInForce(t, c) && text.first[c] < t) {
                        struck[text.first[c]] |= 1 << text.second[c];
                    }
                }
            }
        }

        boolean asksBanned() {
            for (int t = 0; t < count; t++) {
                Text text = texts[t];
                if (text != null && text.asksBanned) {
                    return true;
                }
            }
            return false;
        }

        int weeksOf(int step) {
            int weeks = USUAL_STEP;
            for (int t = 0; t < count; t++) {
                Text text = texts[t];
                for (int c = 0; text != null && c < text.clauses; c++) {
                    if (text.kind[c] == WORD_STEP && isInForce(t, c) && text.first[c] == step) {
                        weeks = text.second[c];
                    }
                }
            }
            return weeks;
        }

        void copyFrom(Law other) {
            count = other.count;
            for (int t = 0; t < TEXTS; t++) {
                texts[t] = other.texts[t];
            }
        }
    }

    /** A text as read; never changed, so that images share it. */
    private static final class Text {
        final int from;
        final int clauses;
        final boolean asksBanned;
        /** Each clause's head, and the two numbers of a "strike" or a "step". */
        final int[] kind;
        final int[] first;
        final int[] second;
        /** Where each clause's instructions begin and where they end. */
        final int[] start;
        final int[] stop;
        final int[] op;
        final int[] arg;

        Text(int from, Reader reader) {
            this.from = from;
            this.clauses = reader.clauses;
            this.asksBanned = reader.asksBanned;
            this.kind = Arrays.copyOf(reader.kind, CLAUSES);
            this.first = Arrays.copyOf(reader.first, CLAUSES);
            this.second = Arrays.copyOf(reader.second, CLAUSES);
            this.start = Arrays.copyOf(reader.start, CLAUSES);
            this.stop = Arrays.copyOf(reader.stop, CLAUSES);
            this.op = Arrays.copyOf(reader.op, Math.max(reader.written, 0));
            this.arg = Arrays.copyOf(reader.arg, Math.max(reader.written, 0));
        }
    }

    /** Bytes that wait to be a text or a row. */
    private static final class Tape {
        int length;
        final int[] bytes = new int[TAPE];
        private final double[] numbers = new double[FIELDS];
        private int numbersRead;

        void append(int number) {
            for (int shift = 24; shift >= 0 && length < TAPE; shift -= 8) {
                bytes[length] = number >>> shift & 255;
                length++;
            }
        }

        int floats() {
            return (length + 3) / 4;
        }

        /** Reads the whole floats, and says how many they are; one that can't count is kept below 0. */
        int readNumbers() {
            numbersRead = Math.min(length / 4, FIELDS);
            for (int i = 0; i < numbersRead; i++) {
                int at = i * 4;
                numbers[i] = valueOf(bytes[at] << 24 | bytes[at + 1] << 16 | bytes[at + 2] << 8 | bytes[at + 3]);
            }
            return numbersRead;
        }

        /** The i-th number of the row, or what its neighbours make of it. */
        double numberOf(int i) {
            double ahead = nearest(i, -1);
            double behind = nearest(i, 1);
            if (ahead < 0) {
                return behind < 0 ? 0 : behind;
            }
            return behind < 0 ? ahead : (ahead + behind) / 2;
        }

        /** From i on, itself too: so a number that counts is the mean of itself and itself. */
        private double nearest(int i, int step) {
            for (int at = i; at >= 0 && at < numbersRead; at += step) {
                if (numbers[at] >= 0) {
                    return numbers[at];
                }
            }
            return -1;
        }

        /** What a float's bits tell, if that is within 0 .. 1000; else -1. */
        private static double valueOf(int bits) {
            int exponent = bits >>> 23 & 255;
            int fraction = bits & 0x7FFFFF;
            if (bits < 0) {
                return exponent == 0 && fraction == 0 ? 0 : -1;
            }
            // 2 to the 10th and beyond is above 1000; so are those that are no numbers.
            if (exponent > 136) {
                return -1;
            }
            double value = exponent == 0 ? fraction : fraction | 0x800000;
            int halvings = 150 - Math.max(exponent, 1);
            for (int i = 0; i < halvings; i++) {
                value = value / 2;
            }
            return value > 1000 ? -1 : value;
        }
    }

    /**
     * Reads a text off the tape. Each clause becomes instructions for a stack, so that asking it needs
     * no tree: its SUM (0 without), then its TEST with an "if" behind it; an "or", an "and" stand
     * between their sides and tell where the second side ends.
     */
    private static final class Reader {
        int fault = NONE;

        int clauses;
        boolean asksBanned;
        final int[] kind = new int[CLAUSES];
        final int[] first = new int[CLAUSES];
        final int[] second = new int[CLAUSES];
        final int[] start = new int[CLAUSES];
        final int[] stop = new int[CLAUSES];
        int written;
        final int[] op = new int[TAPE];
        final int[] arg = new int[TAPE];

        private int tokens;
        private final int[] token = new int[TAPE + 1];
        private final int[] place = new int[TAPE + 1];
        private final int[] value = new int[TAPE + 1];
        private int at;
        private int leaves;

        /** The text, or null with its FAULT. */
        Text read(Tape tape, int from) {
            split(tape);
            fault = NONE;
            clauses = 0;
            asksBanned = false;
            written = 0;
            at = 0;
            leaves = 0;
            readClause();
            for (int i = 0; i < tokens && fault == NONE && token[at] == ';'; i++) {
                at++;
                readClause();
            }
            if (token[at] != END) {
                fail();
            }
            return fault == NONE ? new Text(from, this) : null;
        }

        /** The last token is END, and nothing goes on behind it: so "at" stays within the tokens. */
        private void split(Tape tape) {
            tokens = 0;
            int next = 0;
            for (int i = 0; i < tape.length; i++) {
                int b = tape.bytes[i];
                if (i < next || b == ' ') {
                    continue;
                }
                next = endOfRun(tape, i);
                place[tokens] = i;
                value[tokens] = 0;
                token[tokens] = b;
                if (isDigit(b)) {
                    token[tokens] = NUMBER;
                    value[tokens] = numberIn(tape, i, next);
                } else if (isLetter(b)) {
                    token[tokens] = wordIn(tape, i, next);
                }
                tokens++;
            }
            place[tokens] = tape.length;
            token[tokens] = END;
        }

        private static boolean isDigit(int b) {
            return b >= '0' && b <= '9';
        }

        private static boolean isLetter(int b) {
            return b >= 'a' && b <= 'z';
        }

        private static int endOfRun(Tape tape, int from) {
            int b = tape.bytes[from];
            int end = from + 1;
            while (end < tape.length && (isDigit(b) && isDigit(tape.bytes[end])
                    || isLetter(b) && isLetter(tape.bytes[end]))) {
                end++;
            }
            return end;
        }

        /** Whatever is above what any NUMBER may be stays there, but goes no further. */
        private static int numberIn(Tape tape, int from, int end) {
            int number = 0;
            for (int i = from; i < end; i++) {
                number = Math.min(number * 10 + tape.bytes[i] - '0', MOST_NUMBER + 1);
            }
            return number;
        }

        private static int wordIn(Tape tape, int from, int end) {
            int word = FIRST_WORD;
            int length = end - from;
            int alike = 0;
            for (int i = 0; i < WORDS.length(); i++) {
                char c = WORDS.charAt(i);
                if (c != ' ') {
                    boolean goesOn = alike >= 0 && alike < length && tape.bytes[from + alike] == c;
                    alike = goesOn ? alike + 1 : -1;
                } else if (alike == length) {
                    return word;
                } else {
                    word++;
                    alike = 0;
                }
            }
            return NO_WORD;
        }

        private void fail() {
            if (fault == NONE) {
                fault = place[at];
            }
        }

        private void expect(int what) {
            if (fault != NONE) {
                return;
            }
            if (token[at] == what) {
                at++;
            } else {
                fault = place[at];
            }
        }

        private int readNumber(int low, int high) {
            if (fault != NONE || token[at] != NUMBER || value[at] < low || value[at] > high) {
                fail();
                return 0;
            }
            at++;
            return value[at - 1];
        }

        private void write(int itsOp, int itsArg) {
            if (written < op.length) {
                op[written] = itsOp;
                arg[written] = itsArg;
                written++;
            }
        }

        private void readClause() {
            if (clauses >= CLAUSES) {
                fail();
                return;
            }
            int c = clauses;
            int head = token[at];
            boolean mayAsk = false;
            clauses++;
            kind[c] = head;
            first[c] = 0;
            second[c] = 0;
            start[c] = written;
            if (head == WORD_STRIKE) {
                at++;
                first[c] = readNumber(0, TEXTS - 1);
                expect(WORD_CLAUSE);
                second[c] = readNumber(0, CLAUSES - 1);
            } else if (head == WORD_STEP) {
                at++;
                first[c] = readNumber(0, LAST_STEP);
                second[c] = readNumber(1, 52);
            } else if (head == WORD_FAIR || head == WORD_DRAW) {
                at++;
                readSum(0);
                mayAsk = true;
            } else if (head == WORD_KEEP || head == WORD_BAN || head == WORD_GRAB) {
                at++;
                write(NUMBER, 0);
                mayAsk = true;
            } else {
                fail();
            }
            if (mayAsk && fault == NONE && token[at] == WORD_IF) {
                at++;
                readTest(0);
                write(WORD_IF, 0);
            }
            stop[c] = written;
        }

        private void readTest(int brackets) {
            int or = NONE;
            int and = NONE;
            readPlain(brackets);
            for (int i = 0; i < tokens && fault == NONE && (token[at] == WORD_OR || token[at] == WORD_AND); i++) {
                skipToHere(and);
                if (token[at] == WORD_OR) {
                    skipToHere(or);
                    or = written;
                    and = NONE;
                } else {
                    and = written;
                }
                write(token[at], 0);
                at++;
                readPlain(brackets);
            }
            skipToHere(and);
            skipToHere(or);
        }

        private void skipToHere(int from) {
            if (from >= 0 && from < arg.length) {
                arg[from] = written;
            }
        }

        private void readPlain(int brackets) {
            boolean turned = false;
            for (int i = 0; i < tokens && token[at] == WORD_NOT; i++) {
                at++;
                turned = !turned;
            }
            if (token[at] == '(' && brackets < MOST_BRACKETS) {
                at++;
                readTest(brackets + 1);
                expect(')');
            } else if (token[at] >= WORD_HOLDS && token[at] <= WORD_GRABS && leaves < MOST_LEAVES) {
                takeLeaf();
            } else {
                readSum(brackets);
                int sign = token[at];
                if (sign != '<' && sign != '>' && sign != '=') {
                    fail();
                }
                if (fault == NONE) {
                    at++;
                    readSum(brackets);
                    write(sign, 0);
                }
            }
            if (turned) {
                write(WORD_NOT, 0);
            }
        }

        /** Products are written as they come; a "+" or "-" waits until the TERM behind it has ended. */
        private void readSum(int brackets) {
            int waiting = NONE;
            readPart(brackets);
            for (int i = 0; i < tokens && fault == NONE && isSign(token[at]); i++) {
                int sign = token[at];
                at++;
                if (sign == '*' || sign == '/') {
                    readPart(brackets);
                    write(sign, 0);
                    continue;
                }
                if (waiting != NONE) {
                    write(waiting, 0);
                }
                waiting = sign;
                readPart(brackets);
            }
            if (waiting != NONE) {
                write(waiting, 0);
            }
        }

        private static boolean isSign(int what) {
            return what == '+' || what == '-' || what == '*' || what == '/';
        }

        private void readPart(int brackets) {
            boolean number = token[at] == NUMBER && value[at] <= MOST_NUMBER;
            boolean word = token[at] >= WORD_COIN && token[at] <= WORD_PRICE;
            if (token[at] == '[' && brackets < MOST_BRACKETS) {
                at++;
                readSum(brackets + 1);
                expect(']');
            } else if ((number || word) && leaves < MOST_LEAVES) {
                takeLeaf();
            } else {
                fail();
            }
        }

        private void takeLeaf() {
            if (written < op.length) {
                op[written] = token[at];
                arg[written] = value[at];
                written++;
            }
            asksBanned = asksBanned || token[at] == WORD_BANNED;
            leaves++;
            at++;
        }
    }

    /** All that an image keeps. A copy of it can go on on paper, with crops and choices of its own. */
    private static final class County {
        final People people = new People();
        final Land land = new Land();
        final Writs writs = new Writs();
        final Seasons seasons = new Seasons();
        final Law law = new Law();
        final League league = new League();
        int now;
        private final boolean onPaper;

        /** CHOICES: what each FIELD's HOLDER does whatever the TEXTS tell; NONE, if they tell. */
        final int[] choice = new int[FIELDS];
        private boolean choosing;
        private int toldPrice;
        private int toldSacks;
        /** How often HOLDERS were put OUT, and what CHESTS got, since it was copied. */
        int outs;
        long got;

        private int priceNow;
        private final long[] stack = new long[STACK];
        private final int[] spared = new int[FIELDS];

        County(boolean onPaper) {
            this.onPaper = onPaper;
            Arrays.fill(choice, NONE);
        }

        void copyFrom(County other) {
            people.copyFrom(other.people);
            land.copyFrom(other.land);
            writs.copyFrom(other.writs);
            seasons.copyFrom(other.seasons);
            law.copyFrom(other.law);
            league.copyFrom(other.league);
            now = other.now;
            Arrays.fill(choice, NONE);
            choosing = false;
            outs = 0;
            got = 0;
        }

        void tellCrops(int price, int sacks) {
            choosing = true;
            toldPrice = price;
            toldSacks = sacks;
        }

        /** Everything that asks TEXTS or PRICES relies on this having been called in this WEEK. */
        void lookAtNow() {
            law.mark(now);
            priceNow = choosing ? toldPrice : seasons.priceIn(now);
        }

        void settle(int person, int field, int grabbed) {
            land.holder[field] = person;
            land.grabbed[field] = grabbed;
            people.outSince[person] = NONE;
        }

        void passWeek() {
            if (now >= LAST_WEEK) {
                return;
            }
            lookAtNow();
            reap();
            if (now != 0 && now % QUARTER == 0) {
                collectRents();
                payMortgages();
                if (choosing) {
                    tellWrits();
                }
            }
            for (int w = 0; w < writs.count; w++) {
                if (writs.open[w] == 1) {
                    advanceWrit(w);
                }
            }
            payDraws();
            // On paper nobody deals: only "banned" could ask who is.
            if (!onPaper || law.asksBanned()) {
                renewBans();
            }
            now++;
        }

        private void reap() {
            boolean any = choosing ? now % QUARTER == 0 : seasons.rows[now] != null;
            for (int f = 0; any && f < land.count; f++) {
                int holder = land.holder[f];
                int crop = choosing ? toldSacks * land.worth[f] / 100 : seasons.sacksOf(f, now);
                if (holder != NONE && crop != NONE) {
                    people.sacks[holder] += crop;
                }
            }
        }

        private void collectRents() {
            for (int f = 0; f < land.count; f++) {
                int holder = land.holder[f];
                if (holder != NONE && people.state[holder] == IN_HOUSE) {
                    int asked = land.rentOf(f) + land.arrear[f];
                    boolean keeps = choice[f] == NONE ? anyHolds(WORD_KEEP, holder, f) : choice[f] == 1;
                    int would = keeps ? fairOf(f) : asked;
                    int paid = pay(holder, would);
                    land.chest[land.estate[f]] += paid;
                    got += paid;
                    land.arrear[f] = Math.min(asked - paid, TEN_MILLION);
                }
            }
        }

        /** What a PERSON pays of what it would, when it has sold what it needs. */
        private int pay(int person, int would) {
            int lacking = would - people.coin[person];
            if (lacking > 0 && priceNow > 0) {
                int sold = Math.min((lacking + priceNow - 1) / priceNow, people.sacks[person]);
                people.sacks[person] -= sold;
                people.coin[person] += sold * priceNow;
            }
            int paid = Math.min(would, people.coin[person]);
            people.coin[person] -= paid;
            return paid;
        }

        private void payMortgages() {
            for (int e = 0; e < land.estates; e++) {
                if (land.fallen[e] != NONE) {
                    continue;
                }
                if (land.chest[e] < land.mortgage[e]) {
                    land.fallen[e] = now / QUARTER;
                    land.chest[e] = 0;
                } else {
                    land.chest[e] -= land.mortgage[e];
                }
            }
        }

        private void tellWrits() {
            for (int f = 0; f < land.count; f++) {
                if (land.holder[f] != NONE && land.arrear[f] > 0 && writs.openOn(f) == NONE) {
                    writs.add(f, land.holder[f], law.weeksOf(0), now);
                }
            }
        }

        private void advanceWrit(int w) {
            int field = writs.field[w];
            if (land.arrear[field] == 0 || land.holder[field] != writs.holder[w]) {
                writs.open[w] = 0;
                return;
            }
            if (writs.toldIn[w] == now || writs.isGuarded(field, now)) {
                return;
            }
            writs.left[w]--;
            if (writs.left[w] > 0) {
                return;
            }
            writs.step[w]++;
            if (writs.step[w] > LAST_STEP) {
                writs.open[w] = 0;
                putOut(field, writs.holder[w]);
            } else {
                writs.left[w] = law.weeksOf(writs.step[w]);
            }
        }

        private void putOut(int field, int holder) {
            outs++;
            land.holder[field] = NONE;
            land.grabbed[field] = 0;
            land.emptied[field] = 1;
            if (people.state[holder] == IN_HOUSE && !land.isHeldBy(holder)) {
                people.state[holder] = ON_ROAD;
                people.outSince[holder] = now;
            }
        }

        private void payDraws() {
            for (int p = 0; p < people.count; p++) {
                if (people.state[p] != ON_ROAD || people.outSince[p] == NONE) {
                    continue;
                }
                long due = drawOf(p);
                if (due > 0 && due <= league.fund) {
                    league.fund -= (int) due;
                    people.gain(p, (int) due);
                }
            }
        }

        private void renewBans() {
            for (int p = 0; p < people.count; p++) {
                people.bannedNext[p] = anyHolds(WORD_BAN, p, NONE) ? 1 : 0;
            }
            System.arraycopy(people.bannedNext, 0, people.banned, 0, people.count);
        }

        boolean keepsFor(int holder, int field) {
            return holder != NONE && anyHolds(WORD_KEEP, holder, field);
        }

        int fairOf(int field) {
            int rent = land.rentOf(field);
            for (int t = law.count - 1; t >= 0; t--) {
                Text text = law.texts[t];
                for (int c = text == null ? -1 : text.clauses - 1; c >= 0; c--) {
                    if (text.kind[c] != WORD_FAIR || !law.isInForce(t, c)) {
                        continue;
                    }
                    long fair = ask(text, c, land.holder[field], field);
                    if (fair != BROKEN) {
                        return (int) Math.max(0, Math.min(fair, rent));
                    }
                }
            }
            return rent;
        }

        private long drawOf(int person) {
            long sum = 0;
            for (int t = 0; t < law.count; t++) {
                Text text = law.texts[t];
                for (int c = 0; text != null && c < text.clauses; c++) {
                    if (text.kind[c] == WORD_DRAW && law.isInForce(t, c)) {
                        long draw = ask(text, c, person, NONE);
                        sum += draw == BROKEN ? 0 : draw;
                    }
                }
            }
            return sum;
        }

        boolean anyHolds(int kind, int person, int field) {
            for (int t = 0; t < law.count; t++) {
                Text text = law.texts[t];
                for (int c = 0; text != null && c < text.clauses; c++) {
                    if (text.kind[c] == kind && law.isInForce(t, c) && ask(text, c, person, field) != BROKEN) {
                        return true;
                    }
                }
            }
            return false;
        }

        boolean clauseHolds(int t, int clause, int person, int field) {
            Text text = law.texts[t];
            if (text == null || !law.isInForce(t, clause)) {
                return false;
            }
            int kind = text.kind[clause];
            return kind != WORD_STRIKE && kind != WORD_STEP && ask(text, clause, person, field) != BROKEN;
        }

        /** The SUM of a CLAUSE (0 without one); BROKEN also if its "if" is not so. */
        private long ask(Text text, int clause, int person, int field) {
            int top = 0;
            int skipTo = 0;
            stack[0] = 0;
            for (int i = text.start[clause]; i < text.stop[clause]; i++) {
                if (i < skipTo) {
                    continue;
                }
                int op = text.op[i];
                if (op == NUMBER || op >= WORD_HOLDS && op <= WORD_PRICE) {
                    if (top >= STACK) {
                        return BROKEN;
                    }
                    stack[top] = op == NUMBER ? text.arg[i] : wordOf(op, person, field);
                    top++;
                    continue;
                }
                if (top < 1) {
                    return BROKEN;
                }
                boolean so = stack[top - 1] != 0;
                if (op == WORD_NOT) {
                    stack[top - 1] = so ? 0 : 1;
                } else if (op == WORD_IF && !so) {
                    return BROKEN;
                } else if (op == WORD_OR && so || op == WORD_AND && !so) {
                    skipTo = text.arg[i];
                } else {
                    top--;
                    if (op < FIRST_WORD) {
                        long sum = top < 1 ? BROKEN : join(op, stack[top - 1], stack[top]);
                        if (sum == BROKEN) {
                            return BROKEN;
                        }
                        stack[top - 1] = sum;
                    }
                }
            }
            return stack[0];
        }

        private static long join(int op, long a, long b) {
            long sum;
            switch (op) {
                case '+':
                    sum = a + b;
                    break;
                case '-':
                    sum = a - b;
                    break;
                case '*':
                    sum = a * b;
                    break;
                case '/':
                    sum = b == 0 ? BROKEN : a / b;
                    break;
                case '<':
                    sum = a < b ? 1 : 0;
                    break;
                case '>':
                    sum = a > b ? 1 : 0;
                    break;
                default:
                    sum = a == b ? 1 : 0;
                    break;
            }
            return sum < -FARTHEST || sum > FARTHEST ? BROKEN : sum;
        }

        private int wordOf(int word, int person, int field) {
            if (word <= WORD_KIN ? !people.has(person) : word <= WORD_ESTATE && !land.has(field)) {
                return 0;
            }
            switch (word) {
                case WORD_WORTH:
                    return land.worth[field];
                case WORD_RENT:
                    return land.rent[field];
                case WORD_ARREAR:
                    return land.arrear[field];
                case WORD_ESTATE:
                    return land.estate[field];
                case WORD_WEEK:
                    return now;
                case WORD_PRICE:
                    return priceNow;
                case WORD_HOLDS:
                    return land.isHeldBy(person) ? 1 : 0;
                case WORD_OUT:
                    return people.outSince[person] == NONE ? 0 : 1;
                case WORD_BANNED:
                    return people.banned[person];
                case WORD_GRABS:
                    return land.isGrabbedBy(person) ? 1 : 0;
                case WORD_COIN:
                    return people.coin[person];
                case WORD_SACKS:
                    return people.sacks[person];
                case WORD_FEAR:
                    return people.fear[person];
                case WORD_HOUSE:
                    return people.house[person];
                case WORD_KIN:
                    return people.kinOf(person);
                default:
                    return 0;
            }
        }

        /** LEAST: where most is spared by KEEPING it is KEPT first. */
        int fewestKept(int estate, int quarters) {
            long income = 0;
            int held = 0;
            for (int f = 0; f < land.count; f++) {
                if (land.estate[f] == estate && land.holder[f] != NONE) {
                    income += land.rentOf(f);
                    spared[held] = land.rentOf(f) - fairOf(f);
                    held++;
                }
            }
            for (int kept = 0; kept <= held; kept++) {
                if (falls(land.chest[estate], income, land.mortgage[estate], quarters)) {
                    return kept;
                }
                income -= takeMostSpared(held);
            }
            return NONE;
        }

        private static boolean falls(long chest, long income, long mortgage, int quarters) {
            long has = chest;
            for (int q = 0; q < quarters; q++) {
                has += income - mortgage;
                if (has < 0) {
                    return true;
                }
            }
            return false;
        }

        private int takeMostSpared(int held) {
            int most = 0;
            int where = 0;
            for (int i = 0; i < held; i++) {
                if (spared[i] > most) {
                    most = spared[i];
                    where = i;
                }
            }
            spared[where] = 0;
            return most;
        }
    }
}
