import java.util.ArrayList;
import java.util.List;
import java.util.Random;

/**
 * Random runs of at most 512 calls, the same on NoRent and on the Model: every answer must be the same.
 * The seeds are fixed; "java RandomRunsTest FROM TO" tries others.
 */
public final class RandomRunsTest {
    private final Random random;
    private final NoRent x = new NoRent();
    private final Model m = new Model();
    private final List<String> calls = new ArrayList<>();
    private int wrong;
    private int made;

    private RandomRunsTest(long seed) {
        random = new Random(seed);
    }

    public static void main(String[] args) {
        int from = args.length > 1 ? Integer.parseInt(args[0]) : 1;
        int to = args.length > 1 ? Integer.parseInt(args[1]) : 300;
        int wrongRuns = 0;
        for (int seed = from; seed <= to; seed++) {
            RandomRunsTest run = new RandomRunsTest(seed);
            run.run();
            if (run.wrong > 0) {
                wrongRuns++;
                System.out.println("run of seed " + seed + ":");
                List<String> calls = run.calls;
                for (String call : calls.subList(Math.max(0, calls.size() - 40), calls.size())) {
                    System.out.println("  " + call);
                }
                if (wrongRuns > 3) {
                    break;
                }
            }
        }
        System.out.println(wrongRuns == 0 ? "all answers are as due" : wrongRuns + " runs went wrong");
        if (wrongRuns != 0) {
            System.exit(1);
        }
    }

    private void due(String call, long got, long want) {
        made++;
        calls.add(call + " answered " + got + (got == want ? "" : ", due is " + want));
        if (got != want) {
            wrong++;
        }
    }

    private int upTo(int n) {
        return random.nextInt(n + 1);
    }

    private boolean chance(int percent) {
        return random.nextInt(100) < percent;
    }

    /** Mostly one that can be; now and then an edge or one beyond it. */
    private int number(int low, int high) {
        if (chance(96)) {
            return low + random.nextInt(high - low + 1);
        }
        int[] edges = {low, high, low - 1, high + 1, Integer.MIN_VALUE, Integer.MAX_VALUE, 0, -1};
        return edges[random.nextInt(edges.length)];
    }

    private int pick(int what) {
        int n = m.count(what);
        return n == 0 || chance(4) ? number(-1, n + 1) : random.nextInt(n);
    }

    private void run() {
        boolean rich = chance(50);
        for (int i = 0; i < 3 + upTo(5); i++) {
            person(rich);
        }
        for (int i = 0; i < 1 + upTo(2); i++) {
            estate();
        }
        for (int i = 0; i < 2 + upTo(6); i++) {
            field();
        }
        if (chance(30)) {
            manyOf(random.nextInt(9));
        }
        while (made < 500 && wrong == 0) {
            anyCall(rich);
        }
    }

    /** Up to a limit of the document, and beyond it. */
    private void manyOf(int what) {
        for (int i = 0; i < 42; i++) {
            switch (what) {
                case 0: person(false); break;
                case 1: field(); break;
                case 2: guard(); break;
                case 3: int l = number(-1000, 1000); int o = number(-1000, 1000);
                    due("offer(" + l + ", " + o + ")", x.offer(l, o), m.offer(l, o)); break;
                case 4: text(chance(90) ? "keep" : randomText()); break;
                case 5: estate(); break;
                case 6: row(); break;
                default: deal(); break;
            }
        }
    }

    private void person(boolean rich) {
        int h = number(0, chance(70) ? 3 : 19);
        int c = number(0, rich ? 5000 : 300);
        int f = number(0, 100);
        due("person(" + h + ", " + c + ", " + f + ")", x.person(h, c, f), m.person(h, c, f));
    }

    private void estate() {
        int c = number(0, chance(80) ? 1000 : 10_000_000);
        int g = number(0, chance(80) ? 500 : 1_000_000);
        due("estate(" + c + ", " + g + ")", x.estate(c, g), m.estate(c, g));
    }

    private void field() {
        int e = pick(2);
        int w = number(1, chance(50) ? 100 : 1000);
        int r = number(0, chance(80) ? 400 : 100_000);
        int h = chance(15) ? -1 : pick(1);
        due("field(" + e + ", " + w + ", " + r + ", " + h + ")", x.field(e, w, r, h), m.field(e, w, r, h));
    }

    private void guard() {
        int f = pick(3);
        int a = number(0, Math.min(399, m.count(0) + 10));
        int b = chance(85) ? a + upTo(6) : number(0, 399);
        due("guard(" + f + ", " + a + ", " + b + ")", x.guard(f, a, b), m.guard(f, a, b));
    }

    private void deal() {
        int a = pick(1);
        int b = pick(1);
        int p = chance(70) ? number(1, 100) : number(1, 10_000);
        due("deal(" + a + ", " + b + ", " + p + ")", x.deal(a, b, p), m.deal(a, b, p));
    }

    private void feedBytes(byte[] bytes) {
        for (int i = 0; i < bytes.length; i += 20) {
            int[] n = new int[5];
            for (int k = 0; k < 20; k++) {
                int b = i + k < bytes.length ? bytes[i + k] & 255 : 32;
                n[k / 4] = n[k / 4] << 8 | b;
            }
            due("feed(" + n[0] + ", " + n[1] + ", " + n[2] + ", " + n[3] + ", " + n[4] + ")",
                x.feed(n[0], n[1], n[2], n[3], n[4]), m.feed(n[0], n[1], n[2], n[3], n[4]));
        }
    }

    private void end(int n) {
        due("end(" + n + ")", x.end(n), m.end(n));
    }

    private void text(String text) {
        end(0);
        feedBytes(text.getBytes(java.nio.charset.StandardCharsets.ISO_8859_1));
        end(Math.min(text.length(), m.count(9)));
        int w = chance(60) ? m.count(0) : chance(50) ? number(0, 399) : Math.min(399, m.count(0) + upTo(20));
        due("text(" + w + ") of \"" + text + "\"", x.text(w), m.text(w));
        due("count(9)", x.count(9), m.count(9));
        due("fault()", x.fault(), m.fault());
    }

    private void row() {
        int f = chance(60) ? 0 : pick(3);
        int n = Math.max(0, m.count(3) - f - (chance(50) ? 0 : upTo(3)) + (chance(5) ? 1 : 0));
        n = Math.min(n, 30);
        byte[] bytes = new byte[n * 4];
        for (int i = 0; i < n; i++) {
            int bits = Float.floatToRawIntBits(oneFloat());
            for (int k = 0; k < 4; k++) {
                bytes[i * 4 + k] = (byte) (bits >>> (24 - 8 * k));
            }
        }
        end(0);
        feedBytes(bytes);
        end(Math.min(m.count(9), Math.max(0, n * 4 - (chance(80) ? 0 : upTo(3)))));
        int w = chance(90) ? Math.min(399, m.count(0) + upTo(20)) : number(0, 399);
        due("row(" + w + ", " + f + ")", x.row(w, f), m.row(w, f));
        due("count(9)", x.count(9), m.count(9));
        if (chance(30)) {
            int g = pick(3);
            due("crop(" + g + ", " + w + ")", x.crop(g, w), m.crop(g, w));
        }
    }

    private float oneFloat() {
        switch (random.nextInt(10)) {
            case 0: return Float.NaN;
            case 1: return Float.intBitsToFloat(random.nextInt());
            case 2: return chance(50) ? Float.POSITIVE_INFINITY : -1f;
            case 3: return new float[] {0f, -0f, 1000f, 1000.0001f, Float.MIN_VALUE, 1024f, 0.01f, 999.99994f}[random.nextInt(8)];
            case 4: return random.nextFloat() * 1000f;
            default: return random.nextFloat() * 10f;
        }
    }

    private String randomText() {
        StringBuilder b = new StringBuilder();
        int n = chance(5) ? 12 + upTo(1) : 1 + upTo(3);
        for (int i = 0; i < n; i++) {
            b.append(i == 0 ? "" : chance(50) ? ";" : " ; ").append(clause());
        }
        if (chance(6)) {
            int at = random.nextInt(b.length());
            if (chance(50)) {
                b.deleteCharAt(at);
            } else {
                b.insert(at, "aif;([)]<+0 9\u00e9".charAt(random.nextInt(14)));
            }
        }
        if (chance(2)) {
            b.setLength(upTo(b.length()));
        }
        return b.length() > 400 ? b.substring(0, 400) : b.toString();
    }

    private String clause() {
        switch (random.nextInt(10)) {
            case 0: return "strike " + number(0, Math.max(1, Math.min(19, m.count(4)))) + " clause " + number(0, 3);
            case 1: return "step " + number(0, 3) + " " + number(1, chance(80) ? 3 : 52);
            case 2: case 3: return "fair " + sum(2) + when();
            case 4: return "draw " + (chance(60) ? "" + upTo(9) : sum(2)) + (chance(50) ? " if out" : when());
            case 5: case 6: return "keep" + when();
            case 7: return "ban" + when();
            default: return "grab" + when();
        }
    }

    private String when() {
        return chance(30) ? "" : " if " + test(3);
    }

    private String test(int deep) {
        int k = random.nextInt(12);
        if (deep <= 0 || k < 4) {
            return sum(1) + " " + "<>=".charAt(random.nextInt(3)) + " " + sum(1);
        }
        switch (k) {
            case 4: return "holds";
            case 5: return "out";
            case 6: return chance(50) ? "banned" : "grabs";
            case 7: return "not " + test(deep - 1);
            case 8: return "(" + test(deep - 1) + ")";
            case 9: return test(deep - 1) + " or " + test(deep - 1);
            default: return test(deep - 1) + " and " + test(deep - 1);
        }
    }

    private String sum(int deep) {
        String[] words = {"worth", "rent", "arrear", "coin", "sacks", "fear", "kin", "week", "price", "estate", "house"};
        int k = random.nextInt(8);
        if (deep <= 0 || k < 3) {
            return chance(50) ? words[random.nextInt(words.length)] : "" + (chance(95) ? upTo(100) : number(0, 100_000));
        }
        if (k == 3) {
            return "[" + sum(deep - 1) + "]";
        }
        return sum(deep - 1) + " " + "+-*/".charAt(random.nextInt(4)) + " " + sum(deep - 1);
    }

    /** At the limits of 50 numbers and words, of 8 brackets, of 12 clauses, of 400 bytes. */
    private String longText() {
        StringBuilder b = new StringBuilder();
        switch (random.nextInt(5)) {
            case 0:
                b.append("fair 1").append("+1".repeat(47 + upTo(4)));
                break;
            case 1:
                int d = 7 + upTo(2);
                b.append("keep if ").append("(".repeat(d)).append("holds").append(")".repeat(d));
                break;
            case 2:
                int e = upTo(9);
                b.append("ban if ").append("(".repeat(e)).append("[".repeat(Math.max(0, 9 - e - upTo(1))));
                b.append("1").append("]".repeat(8 - Math.min(8, e))).append("<2").append(")".repeat(e));
                break;
            case 3:
                b.append("keep").append(";ban".repeat(10 + upTo(2)));
                break;
            default:
                b.append("keep if ").append("not ".repeat(90 + upTo(1))).append("holds");
                break;
        }
        return b.length() > 400 ? b.substring(0, 400) : b.toString();
    }

    private void anyCall(boolean rich) {
        int k = random.nextInt(100);
        if (k < 12) {
            text(chance(92) ? randomText() : longText());
        } else if (k < 24) {
            int w = chance(95) ? 1 + upTo(chance(60) ? 3 : 26) : number(1, 104);
            due("go(" + w + ")", x.go(w), m.go(w));
        } else if (k < 36) {
            ask();
        } else if (k < 50) {
            askMore();
        } else if (k < 64) {
            change(rich);
        } else if (k < 68) {
            row();
        } else if (k < 76) {
            int f = pick(3);
            due("writ(" + f + ")", x.writ(f), m.writ(f));
        } else if (k < 81) {
            int p = pick(1);
            int f = pick(3);
            int w = chance(60) ? 0 : number(0, 1);
            due("take(" + p + ", " + f + ", " + w + ")", x.take(p, f, w), m.take(p, f, w));
        } else if (k < 86) {
            deal();
        } else if (k < 92) {
            plan();
        } else {
            keepAndSeal();
        }
        if (chance(25)) {
            due("status()", x.status(), m.status());
        }
        if (chance(6)) {
            all();
        }
    }

    private void ask() {
        int p = pick(1);
        int f = pick(3);
        int e = pick(2);
        int w = number(0, 7);
        int v = number(0, 5);
        due("of(" + p + ", " + v + ")", x.of(p, v), m.of(p, v));
        due("tells(" + f + ", " + w + ")", x.tells(f, w), m.tells(f, w));
        due("owner(" + e + ", " + (w & 3) + ")", x.owner(e, w & 3), m.owner(e, w & 3));
    }

    /** Everything that can be asked of PERSONS, FIELDS and ESTATES. */
    private void all() {
        for (int p = 0; p < m.count(1) && made < 500; p++) {
            for (int w = 0; w < 6; w++) {
                made--;
                due("of(" + p + ", " + w + ")", x.of(p, w), m.of(p, w));
            }
        }
        for (int f = 0; f < m.count(3) && made < 500; f++) {
            for (int w = 0; w < 8; w++) {
                made--;
                due("tells(" + f + ", " + w + ")", x.tells(f, w), m.tells(f, w));
            }
        }
        for (int e = 0; e < m.count(2); e++) {
            made -= 2;
            due("owner(" + e + ", 0)", x.owner(e, 0), m.owner(e, 0));
            due("owner(" + e + ", 1)", x.owner(e, 1), m.owner(e, 1));
        }
    }

    private void askMore() {
        int t = pick(4);
        int c = number(0, 3);
        int p = pick(1);
        int q = pick(1);
        int f = chance(20) ? -1 : pick(3);
        int w;
        switch (random.nextInt(9)) {
            case 0:
                w = number(0, 399);
                due("force(" + t + ", " + c + ", " + w + ")", x.force(t, c, w), m.force(t, c, w));
                break;
            case 1: case 2:
                p = chance(10) ? -1 : p;
                due("holds(" + t + ", " + c + ", " + p + ", " + f + ")", x.holds(t, c, p, f), m.holds(t, c, p, f));
                break;
            case 3:
                due("keeps(" + p + ", " + q + ")", x.keeps(p, q), m.keeps(p, q));
                break;
            case 4:
                int pence = chance(60) ? number(1, 50) : number(1, 10_000);
                w = number(0, 2);
                int i = number(0, 3);
                due("broke(" + p + ", " + pence + ", " + w + ", " + i + ")", x.broke(p, pence, w, i), m.broke(p, pence, w, i));
                break;
            case 5:
                int a = number(1, chance(50) ? 10 : 10_000);
                int n = number(0, chance(50) ? 5 : 1000);
                int more = number(0, chance(50) ? 1 : 1000);
                due("last(" + a + ", " + n + ", " + more + ")", x.last(a, n, more), m.last(a, n, more));
                break;
            case 6:
                int e = pick(2);
                int u = number(m.count(0) / 13 + 1, m.count(0) / 13 + 8);
                due("least(" + e + ", " + u + ")", x.least(e, u), m.least(e, u));
                break;
            case 7:
                int l = chance(80) ? number(-100, 1000) : number(-10_000, 10_000);
                int o = chance(80) ? number(-100, 1000) : number(-10_000, 10_000);
                due("agree(" + l + ", " + o + ")", x.agree(l, o), m.agree(l, o));
                break;
            default:
                w = number(0, 9);
                due("count(" + w + ")", x.count(w), m.count(w));
                due("fund()", x.fund(), m.fund());
                break;
        }
    }

    private void change(boolean rich) {
        int p = pick(1);
        int a;
        int b;
        switch (random.nextInt(12)) {
            case 0: person(rich); break;
            case 1: field(); break;
            case 2:
                a = chance(20) ? -1 : pick(1);
                due("heed(" + p + ", " + a + ")", x.heed(p, a), m.heed(p, a));
                break;
            case 3: case 4:
                a = chance(60) ? 0 : number(0, 4);
                due("goes(" + p + ", " + a + ")", x.goes(p, a), m.goes(p, a));
                break;
            case 5:
                a = chance(80) ? number(0, 500) : number(0, 1_000_000);
                due("coin(" + p + ", " + a + ")", x.coin(p, a), m.coin(p, a));
                break;
            case 6:
                a = chance(80) ? number(0, 100) : number(0, 10_000_000);
                due("give(" + a + ")", x.give(a), m.give(a));
                break;
            case 7:
                a = chance(90) ? Math.min(399, m.count(0) + upTo(10)) : number(0, 399);
                b = chance(80) ? number(0, 50) : number(0, 10_000);
                due("price(" + a + ", " + b + ")", x.price(a, b), m.price(a, b));
                break;
            case 8: guard(); break;
            case 9:
                a = pick(3);
                due("avoid(" + a + ")", x.avoid(a), m.avoid(a));
                break;
            case 10:
                a = number(0, 101);
                due("brave(" + a + ")", x.brave(a), m.brave(a));
                break;
            default:
                a = chance(50) ? number(-1000, 1000) : number(-50, 200);
                b = number(-1000, 1000);
                due("offer(" + a + ", " + b + ")", x.offer(a, b), m.offer(a, b));
                break;
        }
    }

    private void plan() {
        int a;
        int b;
        switch (random.nextInt(9)) {
            case 0: case 1: case 2:
                a = pick(3);
                due("wish(" + a + ")", x.wish(a), m.wish(a));
                break;
            case 3: case 4:
                a = chance(80) ? number(0, 30) : number(0, 10_000);
                b = chance(80) ? number(0, 30) : number(0, 10_000);
                due("crops(" + a + ", " + b + ")", x.crops(a, b), m.crops(a, b));
                break;
            case 5:
                if (chance(20)) {
                    due("clear()", x.clear(), m.clear());
                }
                break;
            case 6:
                a = number(0, (1 << m.count(8)) - 1);
                b = number(1, 104);
                due("judge(" + a + ", " + b + ")", x.judge(a, b), m.judge(a, b));
                break;
            case 7:
                if (chance(50)) {
                    a = chance(70) ? number(20, 60) : number(1, 104);
                    due("choose(" + a + ")", x.choose(a), m.choose(a));
                    for (int i = 0; i < 7; i++) {
                        due("chosen(" + i + ")", x.chosen(i), m.chosen(i));
                    }
                }
                break;
            default:
                String text = randomText();
                end(0);
                feedBytes(text.getBytes(java.nio.charset.StandardCharsets.ISO_8859_1));
                end(Math.min(text.length(), m.count(9)));
                a = number(1, 104);
                due("beside(" + a + ") of \"" + text + "\"", x.beside(a), m.beside(a));
                due("count(9)", x.count(9), m.count(9));
                due("fault()", x.fault(), m.fault());
                break;
        }
    }

    private void keepAndSeal() {
        int a = pick(3);
        int b = number(1, 255);
        int k = number(0, 1);
        switch (random.nextInt(7)) {
            case 0: due("seal()", x.seal(), m.seal()); break;
            case 1: case 2: due("alter(" + a + ", " + b + ")", x.alter(a, b), m.alter(a, b)); break;
            case 3: case 4: due("found()", x.found(), m.found()); break;
            case 5: due("image(" + k + ")", x.image(k), m.image(k)); break;
            default: due("back(" + k + ")", x.back(k), m.back(k)); break;
        }
    }
}
