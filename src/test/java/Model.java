import java.util.ArrayList;
import java.util.Comparator;
import java.util.HashMap;
import java.util.List;
import java.util.Map;
import java.util.TreeMap;

/**
 * The document said again as plainly as Java's library allows: trees, lists, maps and whole searches,
 * without a care for speed or room. Random runs hold NoRent against it.
 */
final class Model {
    static final int NONE = -1;
    static final long NOTHING = -2_000_000_000_000L;

    static final class Person {
        int house, coin, fear, heed = NONE, sacks, state, out = NONE;
        boolean banned;
    }

    static final class Field {
        int estate, worth, rent, holder, arrear;
        boolean grabbed, emptied;
    }

    static final class Estate {
        int chest, mortgage, fallen = NONE;
    }

    static final class Writ {
        int field, holder, step, left, told;
        boolean ended;
    }

    /** Asks a SUM or a TEST: null is BROKEN. */
    interface Asked {
        Long ask(State s, int person, int field);
    }

    static final class Clause {
        String head;
        int a, b;
        Asked sum, test;
    }

    static final class Law {
        int from;
        List<Clause> clauses = new ArrayList<>();
    }

    static final class Fault extends Exception {
        private static final long serialVersionUID = 1;
        final int place;

        Fault(int place) {
            this.place = place;
        }
    }

    static final class State {
        int now, fund, brave = 50, deals;
        List<Person> persons = new ArrayList<>();
        List<Estate> estates = new ArrayList<>();
        List<Field> fields = new ArrayList<>();
        List<Law> texts = new ArrayList<>();
        List<Writ> writs = new ArrayList<>();
        List<int[]> guards = new ArrayList<>();
        List<int[]> offers = new ArrayList<>();
        TreeMap<Integer, Integer> prices = new TreeMap<>();
        Map<Integer, Map<Integer, Integer>> rows = new HashMap<>();
        long[] seal;
        // on paper
        int[] crops;
        Map<Integer, Boolean> choices = new HashMap<>();
        int outs;
        long got;

        State copy() {
            State c = new State();
            c.now = now;
            c.fund = fund;
            c.brave = brave;
            c.deals = deals;
            for (Person p : persons) {
                Person q = new Person();
                q.house = p.house;
                q.coin = p.coin;
                q.fear = p.fear;
                q.heed = p.heed;
                q.sacks = p.sacks;
                q.state = p.state;
                q.out = p.out;
                q.banned = p.banned;
                c.persons.add(q);
            }
            for (Estate e : estates) {
                Estate d = new Estate();
                d.chest = e.chest;
                d.mortgage = e.mortgage;
                d.fallen = e.fallen;
                c.estates.add(d);
            }
            for (Field f : fields) {
                Field g = new Field();
                g.estate = f.estate;
                g.worth = f.worth;
                g.rent = f.rent;
                g.holder = f.holder;
                g.arrear = f.arrear;
                g.grabbed = f.grabbed;
                g.emptied = f.emptied;
                c.fields.add(g);
            }
            for (Writ w : writs) {
                Writ v = new Writ();
                v.field = w.field;
                v.holder = w.holder;
                v.step = w.step;
                v.left = w.left;
                v.told = w.told;
                v.ended = w.ended;
                c.writs.add(v);
            }
            c.texts.addAll(texts);
            c.guards.addAll(guards);
            c.offers.addAll(offers);
            c.prices.putAll(prices);
            c.rows.putAll(rows);
            c.seal = seal;
            return c;
        }

        int price() {
            if (crops != null) {
                return crops[0];
            }
            Map.Entry<Integer, Integer> e = prices.floorEntry(now);
            return e == null ? 100 : e.getValue();
        }

        boolean inForce(int t, int c, int week) {
            if (texts.get(t).from > week) {
                return false;
            }
            for (int u = t + 1; u < texts.size(); u++) {
                List<Clause> later = texts.get(u).clauses;
                for (int d = 0; d < later.size(); d++) {
                    Clause k = later.get(d);
                    if (k.head.equals("strike") && k.a == t && k.b == c && inForce(u, d, week)) {
                        return false;
                    }
                }
            }
            return true;
        }

        /** The SUM of a CLAUSE that HOLDS (0 if it has none); null, if it does not. */
        Long held(int t, int c, int person, int field) {
            Clause k = texts.get(t).clauses.get(c);
            if (k.head.equals("strike") || k.head.equals("step") || !inForce(t, c, now)) {
                return null;
            }
            if (k.test != null) {
                Long so = k.test.ask(this, person, field);
                if (so == null || so == 0) {
                    return null;
                }
            }
            return k.sum == null ? Long.valueOf(0) : k.sum.ask(this, person, field);
        }

        List<Long> allHeld(String head, int person, int field) {
            List<Long> all = new ArrayList<>();
            for (int t = 0; t < texts.size(); t++) {
                for (int c = 0; c < texts.get(t).clauses.size(); c++) {
                    if (texts.get(t).clauses.get(c).head.equals(head)) {
                        Long v = held(t, c, person, field);
                        if (v != null) {
                            all.add(v);
                        }
                    }
                }
            }
            return all;
        }

        int fair(int f) {
            Field x = fields.get(f);
            List<Long> all = allHeld("fair", x.holder, f);
            long rent = Math.max(0, x.rent);
            return (int) (all.isEmpty() ? rent : Math.max(0, Math.min(rent, all.get(all.size() - 1))));
        }

        boolean keepsFor(int f) {
            return fields.get(f).holder != NONE && !allHeld("keep", fields.get(f).holder, f).isEmpty();
        }

        int stepWeeks(int step) {
            int weeks = 4;
            for (int t = 0; t < texts.size(); t++) {
                for (int c = 0; c < texts.get(t).clauses.size(); c++) {
                    Clause k = texts.get(t).clauses.get(c);
                    if (k.head.equals("step") && k.a == step && inForce(t, c, now)) {
                        weeks = k.b;
                    }
                }
            }
            return weeks;
        }

        Writ writOn(int f) {
            return writs.stream().filter(w -> w.field == f && !w.ended).findFirst().orElse(null);
        }

        boolean holdsAny(int p) {
            return fields.stream().anyMatch(f -> f.holder == p);
        }

        int kin(int p) {
            int n = 0;
            for (int q = 0; q < persons.size(); q++) {
                if (q != p && persons.get(q).house == persons.get(p).house && persons.get(q).state == 0) {
                    n++;
                }
            }
            return n;
        }

        boolean keepsBan(int p, int whom) {
            if (persons.get(p).house == persons.get(whom).house) {
                return false;
            }
            int q = p;
            for (int i = 0; i < 100 && q != NONE; i++) {
                if (persons.get(q).fear >= brave) {
                    return true;
                }
                q = persons.get(q).heed;
            }
            return false;
        }

        void tellWrit(int f) {
            Writ w = new Writ();
            w.field = f;
            w.holder = fields.get(f).holder;
            w.left = stepWeeks(0);
            w.told = now;
            writs.add(w);
        }

        void week() {
            for (int f = 0; f < fields.size(); f++) {
                Field x = fields.get(f);
                int sacks;
                if (crops != null) {
                    sacks = now % 13 == 0 ? crops[1] * x.worth / 100 : 0;
                } else {
                    sacks = rows.containsKey(now) ? rows.get(now).getOrDefault(f, 0) : 0;
                }
                if (x.holder != NONE) {
                    persons.get(x.holder).sacks += sacks;
                }
            }
            if (now % 13 == 0 && now > 0) {
                rentDay();
            }
            for (Writ w : writs) {
                goOn(w);
            }
            for (int p = 0; p < persons.size(); p++) {
                Person q = persons.get(p);
                if (q.out != NONE && q.state == 1) {
                    long sum = 0;
                    for (long d : allHeld("draw", p, NONE)) {
                        sum += d;
                    }
                    sum = Math.max(0, sum);
                    if (sum <= fund) {
                        fund -= sum;
                        q.coin = (int) Math.min(10_000_000, q.coin + sum);
                    }
                }
            }
            List<Boolean> bans = new ArrayList<>();
            for (int p = 0; p < persons.size(); p++) {
                bans.add(!allHeld("ban", p, NONE).isEmpty());
            }
            for (int p = 0; p < persons.size(); p++) {
                persons.get(p).banned = bans.get(p);
            }
            now++;
        }

        private void rentDay() {
            for (int f = 0; f < fields.size(); f++) {
                Field x = fields.get(f);
                if (x.holder == NONE || persons.get(x.holder).state != 0) {
                    continue;
                }
                Person h = persons.get(x.holder);
                long asked = (long) Math.max(0, x.rent) + x.arrear;
                boolean keeps = choices.containsKey(f) ? choices.get(f) : keepsFor(f);
                long would = keeps ? fair(f) : asked;
                // one SACK after the other, while there is need
                while (h.coin < would && h.sacks > 0 && price() > 0) {
                    h.sacks--;
                    h.coin += price();
                }
                long pays = Math.min(would, h.coin);
                h.coin -= pays;
                estates.get(x.estate).chest += pays;
                got += pays;
                x.arrear = (int) Math.min(10_000_000, asked - pays);
            }
            for (Estate e : estates) {
                if (e.fallen == NONE) {
                    if (e.chest < e.mortgage) {
                        e.fallen = now / 13;
                    }
                    e.chest -= Math.min(e.chest, e.mortgage);
                }
            }
            if (crops != null) {
                for (int f = 0; f < fields.size(); f++) {
                    if (fields.get(f).holder != NONE && fields.get(f).arrear > 0 && writOn(f) == null
                            && writs.size() < 60) {
                        tellWrit(f);
                    }
                }
            }
        }

        private void goOn(Writ w) {
            if (w.ended) {
                return;
            }
            Field x = fields.get(w.field);
            if (x.arrear == 0 || x.holder != w.holder) {
                w.ended = true;
                return;
            }
            for (int[] g : guards) {
                if (g[0] == w.field && g[1] <= now && now <= g[2]) {
                    return;
                }
            }
            if (w.told == now || --w.left > 0) {
                return;
            }
            if (++w.step < 4) {
                w.left = stepWeeks(w.step);
                return;
            }
            w.ended = true;
            x.holder = NONE;
            x.grabbed = false;
            x.emptied = true;
            outs++;
            Person h = persons.get(w.holder);
            if (!holdsAny(w.holder) && h.state == 0) {
                h.state = 1;
                h.out = now;
            }
        }
    }

    /** Reads a TEXT by the grammar, a method for each of its rules. */
    static final class Grammar {
        final byte[] b;
        final List<String> tokens = new ArrayList<>();
        final List<Integer> places = new ArrayList<>();
        int at, leaves, depth;

        Grammar(byte[] b) {
            this.b = b;
            for (int i = 0; i < b.length;) {
                int j = i;
                while (j < b.length && b[j] >= 'a' && b[j] <= 'z') {
                    j++;
                }
                if (j == i) {
                    while (j < b.length && b[j] >= '0' && b[j] <= '9') {
                        j++;
                    }
                }
                if (j == i) {
                    j++;
                }
                if (b[i] != ' ') {
                    tokens.add(new String(b, i, j - i, java.nio.charset.StandardCharsets.ISO_8859_1));
                    places.add(i);
                }
                i = j;
            }
            tokens.add("");
            places.add(b.length);
        }

        String token() {
            return tokens.get(at);
        }

        boolean is(String... any) {
            return List.of(any).contains(token());
        }

        Fault fault() {
            return new Fault(places.get(at));
        }

        void must(String s) throws Fault {
            if (!is(s)) {
                throw fault();
            }
            at++;
        }

        int number(int low, int high) throws Fault {
            String t = token();
            if (t.isEmpty() || !Character.isDigit(t.charAt(0)) || t.charAt(0) > 127) {
                throw fault();
            }
            java.math.BigInteger n = new java.math.BigInteger(t);
            if (n.compareTo(java.math.BigInteger.valueOf(low)) < 0 || n.compareTo(java.math.BigInteger.valueOf(high)) > 0) {
                throw fault();
            }
            at++;
            return n.intValue();
        }

        Law text(int from) throws Fault {
            Law law = new Law();
            law.from = from;
            law.clauses.add(clause());
            while (is(";")) {
                at++;
                if (law.clauses.size() == 12) {
                    throw fault();
                }
                law.clauses.add(clause());
            }
            must("");
            return law;
        }

        Clause clause() throws Fault {
            Clause c = new Clause();
            c.head = token();
            if (is("strike")) {
                at++;
                c.a = number(0, 19);
                must("clause");
                c.b = number(0, 11);
                return c;
            }
            if (is("step")) {
                at++;
                c.a = number(0, 3);
                c.b = number(1, 52);
                return c;
            }
            if (is("fair", "draw")) {
                at++;
                c.sum = sum();
            } else if (is("keep", "ban", "grab")) {
                at++;
            } else {
                throw fault();
            }
            if (is("if")) {
                at++;
                c.test = test();
            }
            return c;
        }

        Asked test() throws Fault {
            Asked left = both();
            while (is("or")) {
                at++;
                Asked a = left;
                Asked b = both();
                left = (s, p, f) -> {
                    Long x = a.ask(s, p, f);
                    return x == null || x == 1 ? x : b.ask(s, p, f);
                };
            }
            return left;
        }

        Asked both() throws Fault {
            Asked left = plain();
            while (is("and")) {
                at++;
                Asked a = left;
                Asked b = plain();
                left = (s, p, f) -> {
                    Long x = a.ask(s, p, f);
                    return x == null || x == 0 ? x : b.ask(s, p, f);
                };
            }
            return left;
        }

        void leaf() throws Fault {
            if (++leaves > 50) {
                throw fault();
            }
        }

        void open() throws Fault {
            if (++depth > 8) {
                throw fault();
            }
            at++;
        }

        Asked plain() throws Fault {
            if (is("not")) {
                at++;
                Asked a = plain();
                return (s, p, f) -> {
                    Long x = a.ask(s, p, f);
                    return x == null ? null : Long.valueOf(1 - x);
                };
            }
            if (is("(")) {
                open();
                Asked a = test();
                must(")");
                depth--;
                return a;
            }
            if (is("holds", "out", "banned", "grabs")) {
                leaf();
                String w = token();
                at++;
                return (s, p, f) -> p == NONE ? Long.valueOf(0) : Long.valueOf(isSo(w, s, p) ? 1 : 0);
            }
            Asked a = sum();
            if (!is("<", ">", "=")) {
                throw fault();
            }
            String sign = token();
            at++;
            Asked b = sum();
            return (s, p, f) -> {
                Long x = a.ask(s, p, f);
                Long y = b.ask(s, p, f);
                if (x == null || y == null) {
                    return null;
                }
                int c = Long.compare(x, y);
                return (sign.equals("<") ? c < 0 : sign.equals(">") ? c > 0 : c == 0) ? 1L : 0L;
            };
        }

        static boolean isSo(String w, State s, int p) {
            switch (w) {
                case "holds":
                    return s.holdsAny(p);
                case "out":
                    return s.persons.get(p).out != NONE;
                case "banned":
                    return s.persons.get(p).banned;
                default:
                    return s.fields.stream().anyMatch(f -> f.holder == p && f.grabbed);
            }
        }

        static Asked join(String sign, Asked a, Asked b) {
            return (s, p, f) -> {
                Long x = a.ask(s, p, f);
                Long y = b.ask(s, p, f);
                if (x == null || y == null || sign.equals("/") && y == 0) {
                    return null;
                }
                long r = sign.equals("+") ? x + y : sign.equals("-") ? x - y : sign.equals("*") ? x * y : x / y;
                return Math.abs(r) > 1_000_000_000L ? null : Long.valueOf(r);
            };
        }

        Asked sum() throws Fault {
            Asked left = term();
            while (is("+", "-")) {
                String sign = token();
                at++;
                left = join(sign, left, term());
            }
            return left;
        }

        Asked term() throws Fault {
            Asked left = part();
            while (is("*", "/")) {
                String sign = token();
                at++;
                left = join(sign, left, part());
            }
            return left;
        }

        Asked part() throws Fault {
            String w = token();
            if (is("[")) {
                open();
                Asked a = sum();
                must("]");
                depth--;
                return a;
            }
            if (!w.isEmpty() && w.charAt(0) >= '0' && w.charAt(0) <= '9') {
                leaf();
                long n = number(0, 100_000);
                return (s, p, f) -> n;
            }
            if (!is("worth", "rent", "arrear", "coin", "sacks", "fear", "kin", "week", "price", "estate", "house")) {
                throw fault();
            }
            leaf();
            at++;
            return (s, p, f) -> Long.valueOf(word(w, s, p, f));
        }

        static int word(String w, State s, int p, int f) {
            if (w.equals("week")) {
                return s.now;
            }
            if (w.equals("price")) {
                return s.price();
            }
            Field x = f == NONE ? new Field() : s.fields.get(f);
            Person q = p == NONE ? new Person() : s.persons.get(p);
            switch (w) {
                case "worth":
                    return x.worth;
                case "rent":
                    return x.rent;
                case "arrear":
                    return x.arrear;
                case "estate":
                    return x.estate;
                case "coin":
                    return q.coin;
                case "sacks":
                    return q.sacks;
                case "fear":
                    return q.fear;
                case "house":
                    return q.house;
                default:
                    return p == NONE ? 0 : s.kin(p);
            }
        }
    }

    State s = new State();
    final State[] images = new State[2];
    byte[] tape = new byte[0];
    int fault = NONE;
    final List<Integer> wishes = new ArrayList<>();
    final List<int[]> told = new ArrayList<>();
    int[] best = new int[0];
    int status;

    private int no(int why) {
        status = why;
        return why;
    }

    private int yes(int answer) {
        status = 0;
        return answer;
    }

    private static boolean in(int x, int a, int b) {
        return a <= x && x <= b;
    }

    private boolean isP(int p) {
        return in(p, 0, s.persons.size() - 1);
    }

    private boolean isF(int f) {
        return in(f, 0, s.fields.size() - 1);
    }

    private boolean isE(int e) {
        return in(e, 0, s.estates.size() - 1);
    }

    int person(int house, int coin, int fear) {
        if (!in(house, 0, 19) || !in(coin, 0, 1_000_000) || !in(fear, 0, 100)) {
            return no(-1);
        }
        if (s.persons.size() == 40) {
            return no(-5);
        }
        Person p = new Person();
        p.house = house;
        p.coin = coin;
        p.fear = fear;
        s.persons.add(p);
        return yes(s.persons.size() - 1);
    }

    int heed(int person, int whom) {
        if (!isP(person) || whom != NONE && !isP(whom)) {
            return no(-2);
        }
        if (person == whom) {
            return no(-3);
        }
        s.persons.get(person).heed = whom;
        return yes(0);
    }

    int goes(int person, int state) {
        if (!in(state, 0, 4)) {
            return no(-1);
        }
        if (!isP(person)) {
            return no(-2);
        }
        if (s.persons.get(person).state == 4) {
            return no(-3);
        }
        s.persons.get(person).state = state;
        return yes(0);
    }

    int coin(int person, int pence) {
        if (!in(pence, 0, 1_000_000)) {
            return no(-1);
        }
        if (!isP(person)) {
            return no(-2);
        }
        Person p = s.persons.get(person);
        p.coin = Math.min(p.coin + pence, 10_000_000);
        return yes(p.coin);
    }

    int give(int pence) {
        if (!in(pence, 0, 10_000_000)) {
            return no(-1);
        }
        s.fund = Math.min(100_000_000, s.fund + pence);
        return yes(s.fund);
    }

    int estate(int chest, int mortgage) {
        if (!in(chest, 0, 10_000_000) || !in(mortgage, 0, 1_000_000)) {
            return no(-1);
        }
        if (s.estates.size() == 8) {
            return no(-5);
        }
        Estate e = new Estate();
        e.chest = chest;
        e.mortgage = mortgage;
        s.estates.add(e);
        return yes(s.estates.size() - 1);
    }

    int field(int estate, int worth, int rent, int holder) {
        if (!in(worth, 1, 1000) || !in(rent, 0, 100_000)) {
            return no(-1);
        }
        if (!isE(estate) || holder != NONE && !isP(holder)) {
            return no(-2);
        }
        if (holder != NONE && s.persons.get(holder).state != 0) {
            return no(-3);
        }
        if (s.fields.size() == 40) {
            return no(-5);
        }
        Field f = new Field();
        f.estate = estate;
        f.worth = worth;
        f.rent = rent;
        f.holder = holder;
        if (holder != NONE) {
            s.persons.get(holder).out = NONE;
        }
        s.fields.add(f);
        return yes(s.fields.size() - 1);
    }

    int of(int person, int what) {
        if (!isP(person)) {
            return NONE;
        }
        Person p = s.persons.get(person);
        int[] all = {p.state, p.coin, p.sacks, p.banned ? 1 : 0, p.out, s.kin(person)};
        return in(what, 0, 5) ? all[what] : NONE;
    }

    int tells(int field, int what) {
        if (!isF(field) || !in(what, 0, 7)) {
            return NONE;
        }
        Field f = s.fields.get(field);
        Writ w = s.writOn(field);
        int[] all = {f.holder, f.rent, f.arrear, f.holder == NONE ? NONE : s.fair(field),
            s.keepsFor(field) ? 1 : 0, w == null ? NONE : w.step, w == null ? NONE : w.left, f.emptied ? 1 : 0};
        return all[what];
    }

    int owner(int estate, int what) {
        if (!isE(estate) || !in(what, 0, 1)) {
            return NONE;
        }
        return what == 0 ? s.estates.get(estate).chest : s.estates.get(estate).fallen;
    }

    int fund() {
        return s.fund;
    }

    int price(int week, int price) {
        if (!in(week, 0, 399) || !in(price, 0, 10_000)) {
            return no(-1);
        }
        s.prices.put(week, price);
        return yes(0);
    }

    int row(int week, int from) {
        byte[] bytes = tape;
        tape = new byte[0];
        return rowOf(bytes, week, from);
    }

    private int rowOf(byte[] bytes, int week, int from) {
        if (!in(week, 0, 399)) {
            return no(-1);
        }
        if (!isF(from)) {
            return no(-2);
        }
        if (week < s.now) {
            return no(-3);
        }
        if (s.rows.containsKey(week)) {
            return no(-4);
        }
        int floats = bytes.length / 4 + (bytes.length % 4 == 0 ? 0 : 1);
        if (floats == 0 || from + floats > s.fields.size()) {
            return no(-6);
        }
        float[] raw = new float[bytes.length / 4];
        java.nio.ByteBuffer.wrap(bytes).asFloatBuffer().get(raw);
        Map<Integer, Integer> row = new HashMap<>();
        for (int i = 0; i < raw.length; i++) {
            Double left = null;
            Double right = null;
            for (int j = i; j >= 0 && left == null; j--) {
                left = raw[j] >= 0 && raw[j] <= 1000 ? Double.valueOf(raw[j]) : null;
            }
            for (int j = i; j < raw.length && right == null; j++) {
                right = raw[j] >= 0 && raw[j] <= 1000 ? Double.valueOf(raw[j]) : null;
            }
            double n = left == null ? (right == null ? 0 : right) : right == null ? left : (left + right) / 2;
            row.put(from + i, (int) (n * s.fields.get(from + i).worth / 100));
        }
        s.rows.put(week, row);
        return yes(row.size());
    }

    int crop(int field, int week) {
        if (!isF(field) || !in(week, 0, 399) || !s.rows.containsKey(week)) {
            return NONE;
        }
        return s.rows.get(week).getOrDefault(field, NONE);
    }

    int feed(int a, int b, int c, int d, int e) {
        if (tape.length + 20 > 400) {
            return NONE;
        }
        java.nio.ByteBuffer more = java.nio.ByteBuffer.allocate(tape.length + 20);
        more.put(tape).putInt(a).putInt(b).putInt(c).putInt(d).putInt(e);
        tape = more.array();
        return tape.length;
    }

    int end(int n) {
        if (!in(n, 0, tape.length)) {
            return NONE;
        }
        tape = java.util.Arrays.copyOf(tape, n);
        return n;
    }

    private Law read(int from) {
        try {
            fault = NONE;
            return new Grammar(tape).text(from);
        } catch (Fault f) {
            fault = f.place;
            return null;
        } finally {
            tape = new byte[0];
        }
    }

    int text(int from) {
        if (!in(from, 0, 399)) {
            return no(-1);
        }
        if (s.texts.size() == 20) {
            return no(-5);
        }
        Law law = read(from);
        if (law == null) {
            return no(-6);
        }
        s.texts.add(law);
        return yes(s.texts.size() - 1);
    }

    int fault() {
        return fault;
    }

    private boolean isClause(int text, int clause) {
        return in(text, 0, s.texts.size() - 1) && in(clause, 0, s.texts.get(text).clauses.size() - 1);
    }

    int force(int text, int clause, int week) {
        return !isClause(text, clause) || !in(week, 0, 399) ? NONE : s.inForce(text, clause, week) ? 1 : 0;
    }

    int holds(int text, int clause, int person, int field) {
        if (!isClause(text, clause) || person != NONE && !isP(person) || field != NONE && !isF(field)) {
            return NONE;
        }
        return s.held(text, clause, person, field) == null ? 0 : 1;
    }

    int writ(int field) {
        if (!isF(field)) {
            return no(-2);
        }
        Field f = s.fields.get(field);
        if (f.holder == NONE || f.arrear == 0 || s.writOn(field) != null) {
            return no(-3);
        }
        if (s.writs.size() == 60) {
            return no(-5);
        }
        s.tellWrit(field);
        return yes(s.writs.size());
    }

    int avoid(int field) {
        if (!isF(field)) {
            return no(-2);
        }
        Writ w = s.writOn(field);
        if (w == null) {
            return no(-3);
        }
        w.ended = true;
        return yes(0);
    }

    int guard(int field, int from, int to) {
        if (!in(from, 0, 399) || !in(to, 0, 399) || from > to) {
            return no(-1);
        }
        if (!isF(field)) {
            return no(-2);
        }
        if (s.guards.size() == 40) {
            return no(-5);
        }
        s.guards.add(new int[] {field, from, to});
        return yes(s.guards.size());
    }

    int take(int person, int field, int what) {
        if (!in(what, 0, 1)) {
            return no(-1);
        }
        if (!isP(person) || !isF(field)) {
            return no(-2);
        }
        Person p = s.persons.get(person);
        Field f = s.fields.get(field);
        boolean can = p.state == 0 && f.holder == NONE
            && (what == 0 ? f.emptied && !s.allHeld("grab", person, field).isEmpty() : !f.emptied);
        if (!can) {
            return no(-3);
        }
        f.holder = person;
        f.grabbed = what == 0;
        p.out = NONE;
        return yes(0);
    }

    int go(int weeks) {
        if (!in(weeks, 1, 104) || s.now + weeks > 399) {
            return no(-1);
        }
        for (int i = 0; i < weeks; i++) {
            s.week();
        }
        return yes(s.now);
    }

    int deal(int seller, int buyer, int pence) {
        if (!in(pence, 1, 10_000)) {
            return no(-1);
        }
        if (!isP(seller) || !isP(buyer)) {
            return no(-2);
        }
        Person a = s.persons.get(seller);
        Person b = s.persons.get(buyer);
        if (a == b || b.coin < pence || a.state > 1 || b.state > 1 || b.banned && s.keepsBan(seller, buyer)) {
            return no(-3);
        }
        if (s.deals == 200) {
            return no(-5);
        }
        b.coin -= pence;
        a.coin = Math.min(10_000_000, a.coin + pence);
        return yes(++s.deals);
    }

    int brave(int n) {
        if (!in(n, 0, 101)) {
            return no(-1);
        }
        int was = s.brave;
        s.brave = n;
        return yes(was);
    }

    int keeps(int person, int whom) {
        return !isP(person) || !isP(whom) || person == whom ? NONE : s.keepsBan(person, whom) ? 1 : 0;
    }

    int broke(int person, int pence, int what, int i) {
        if (!isP(person) || !s.persons.get(person).banned || !in(pence, 1, 10_000)) {
            return NONE;
        }
        List<Integer> may = new ArrayList<>();
        for (int p = 0; p < s.persons.size(); p++) {
            Person q = s.persons.get(p);
            if (p != person && q.state < 2 && q.coin >= pence && !s.keepsBan(p, person)) {
                may.add(p);
            }
        }
        switch (what) {
            case 0:
                return may.size() == 1 ? may.get(0) : NONE;
            case 1:
                return may.size();
            case 2:
                return in(i, 0, may.size() - 1) ? may.get(i) : NONE;
            default:
                return NONE;
        }
    }

    int last(int pence, int n, int more) {
        if (!in(pence, 1, 10_000) || !in(n, 0, 1000) || !in(more, 0, 1000)) {
            return NONE;
        }
        long drawn = 0;
        for (int w = 0; w < 400; w++) {
            drawn += (long) pence * (n + (long) w * more);
            if (drawn > s.fund) {
                return w;
            }
        }
        return 400;
    }

    int least(int estate, int q) {
        int first = s.now / 13 + 1;
        if (!isE(estate) || s.estates.get(estate).fallen != NONE || q < first || q > first + 7) {
            return NONE;
        }
        List<Integer> mine = new ArrayList<>();
        for (int f = 0; f < s.fields.size(); f++) {
            if (s.fields.get(f).estate == estate && s.fields.get(f).holder != NONE) {
                mine.add(f);
            }
        }
        // all sets where that can be done, else the greatest savings first
        mine.sort(Comparator.comparingInt(f -> s.fair(f) - Math.max(0, s.fields.get(f).rent)));
        int n = Math.min(mine.size(), 10);
        int least = Integer.MAX_VALUE;
        if (mine.size() <= 10) {
            for (int bits = 0; bits < 1 << n; bits++) {
                if (fails(estate, mine, bits, q - first + 1)) {
                    least = Math.min(least, Integer.bitCount(bits));
                }
            }
        } else {
            for (int k = mine.size(); k >= 0; k--) {
                if (fails(estate, mine, (1L << k) - 1, q - first + 1)) {
                    least = k;
                }
            }
        }
        return least == Integer.MAX_VALUE ? NONE : least;
    }

    private boolean fails(int estate, List<Integer> mine, long bits, int quarters) {
        long chest = s.estates.get(estate).chest;
        for (int q = 0; q < quarters; q++) {
            for (int i = 0; i < mine.size(); i++) {
                chest += (bits >> i & 1) == 1 ? s.fair(mine.get(i)) : Math.max(0, s.fields.get(mine.get(i)).rent);
            }
            if (chest < s.estates.get(estate).mortgage) {
                return true;
            }
            chest -= s.estates.get(estate).mortgage;
        }
        return false;
    }

    int offer(int league, int owners) {
        if (!in(league, -1000, 1000) || !in(owners, -1000, 1000)) {
            return no(-1);
        }
        if (s.offers.size() == 9) {
            return no(-5);
        }
        s.offers.add(new int[] {league, owners});
        return yes(s.offers.size());
    }

    int agree(int league, int owners) {
        if (!in(league, -10_000, 10_000) || !in(owners, -10_000, 10_000)) {
            return NONE;
        }
        List<int[]> sets = new ArrayList<>();
        for (int bits = 0; bits < 1 << s.offers.size(); bits++) {
            int a = 0;
            int b = 0;
            for (int i = 0; i < s.offers.size(); i++) {
                if ((bits >> i & 1) == 1) {
                    a += s.offers.get(i)[0];
                    b += s.offers.get(i)[1];
                }
            }
            if (a >= league && b >= owners) {
                sets.add(new int[] {Integer.bitCount(bits), -(a + b), bits});
            }
        }
        sets.sort(java.util.Arrays::compare);
        return sets.isEmpty() ? NONE : sets.get(0)[2];
    }

    int wish(int field) {
        if (!isF(field)) {
            return no(-2);
        }
        if (s.fields.get(field).holder == NONE) {
            return no(-3);
        }
        if (wishes.contains(field)) {
            return no(-4);
        }
        if (wishes.size() == 6) {
            return no(-5);
        }
        wishes.add(field);
        return yes(wishes.size());
    }

    int clear() {
        int n = wishes.size();
        wishes.clear();
        told.clear();
        return n;
    }

    int crops(int price, int sacks) {
        if (!in(price, 0, 10_000) || !in(sacks, 0, 10_000)) {
            return no(-1);
        }
        if (told.size() == 3) {
            return no(-5);
        }
        told.add(new int[] {price, sacks});
        return yes(told.size());
    }

    private boolean canJudge(int weeks) {
        return in(weeks, 1, 104) && s.now + weeks <= 399 && !told.isEmpty() && wishes.stream().allMatch(this::isF);
    }

    private int worst(int[] row, int weeks) {
        int worst = 0;
        for (int[] c : told) {
            State paper = s.copy();
            paper.crops = c;
            for (int i = 0; i < row.length; i++) {
                paper.choices.put(wishes.get(i), row[i] == 1);
            }
            for (int i = 0; i < weeks; i++) {
                paper.week();
            }
            worst = Math.max(worst, paper.outs);
        }
        return worst;
    }

    int choose(int weeks) {
        if (!canJudge(weeks)) {
            return NONE;
        }
        int n = wishes.size();
        List<int[]> rows = new ArrayList<>();
        for (int k = 0; k < 1 << n; k++) {
            int[] row = new int[n];
            int[] key = new int[n + 2];
            for (int i = 0; i < n; i++) {
                row[i] = k >> i & 1;
                key[i + 2] = row[i];
            }
            key[0] = worst(row, weeks);
            key[1] = Integer.bitCount(k);
            rows.add(key);
        }
        rows.sort(java.util.Arrays::compare);
        best = java.util.Arrays.copyOfRange(rows.get(0), 2, n + 2);
        return rows.get(0)[0];
    }

    int chosen(int wish) {
        return in(wish, 0, best.length - 1) ? best[wish] : NONE;
    }

    int judge(int bits, int weeks) {
        int n = wishes.size();
        if (!canJudge(weeks) || !in(bits, 0, (1 << n) - 1)) {
            return NONE;
        }
        int[] row = new int[n];
        for (int i = 0; i < n; i++) {
            row[i] = bits >> i & 1;
        }
        return worst(row, weeks);
    }

    long beside(int weeks) {
        if (!in(weeks, 1, 104) || s.now + weeks > 399 || s.texts.size() == 20) {
            tape = new byte[0];
            return NOTHING;
        }
        Law law = read(s.now);
        if (law == null) {
            return NOTHING;
        }
        State with = s.copy();
        with.texts.add(law);
        State without = s.copy();
        for (int i = 0; i < weeks; i++) {
            with.week();
            without.week();
        }
        return with.got - without.got;
    }

    private long[] sums() {
        long a = 0;
        long b = 0;
        for (int f = 0; f < s.fields.size(); f++) {
            a += s.fields.get(f).rent;
            b += (long) s.fields.get(f).rent * (f + 1);
        }
        return new long[] {a, b, s.fields.size()};
    }

    int seal() {
        s.seal = sums();
        return s.fields.size();
    }

    int alter(int field, int mask) {
        if (!in(mask, 1, 255)) {
            return no(-1);
        }
        if (!isF(field)) {
            return no(-2);
        }
        return yes(s.fields.get(field).rent ^= mask);
    }

    int found() {
        if (s.seal == null) {
            return -3;
        }
        long[] is = sums();
        if (is[2] > s.seal[2]) {
            return -2;
        }
        if (java.util.Arrays.equals(is, s.seal)) {
            return NONE;
        }
        long off = is[0] - s.seal[0];
        for (int f = 0; f < s.fields.size(); f++) {
            int was = s.fields.get(f).rent;
            s.fields.get(f).rent -= off;
            boolean right = java.util.Arrays.equals(sums(), s.seal);
            s.fields.get(f).rent = was;
            if (right) {
                return f;
            }
        }
        return -2;
    }

    int image(int k) {
        if (!in(k, 0, 1)) {
            return no(-1);
        }
        images[k] = s.copy();
        return yes(0);
    }

    int back(int k) {
        if (!in(k, 0, 1)) {
            return no(-1);
        }
        if (images[k] == null) {
            return no(-2);
        }
        s = images[k].copy();
        return yes(0);
    }

    int count(int what) {
        int[] all = {s.now, s.persons.size(), s.estates.size(), s.fields.size(), s.texts.size(), s.writs.size(),
            s.deals, s.offers.size(), wishes.size(), tape.length};
        return in(what, 0, 9) ? all[what] : NONE;
    }

    int status() {
        return status;
    }
}
