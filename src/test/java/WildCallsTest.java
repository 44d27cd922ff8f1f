import java.lang.reflect.InvocationTargetException;
import java.lang.reflect.Method;
import java.lang.reflect.Modifier;
import java.util.ArrayList;
import java.util.Comparator;
import java.util.List;
import java.util.Random;

/** Any call with any arguments in any state, also far behind the 512th: nothing is ever thrown. */
public final class WildCallsTest {
    private static final int[] EDGES = {Integer.MIN_VALUE, Integer.MIN_VALUE + 1, -10_001, -2, -1, 0, 1, 2, 3, 4, 5, 6, 7, 8, 9,
        12, 13, 19, 20, 39, 40, 52, 100, 101, 104, 255, 256, 399, 400, 1000, 10_000, 100_000, 1_000_000, 10_000_000,
        Integer.MAX_VALUE - 1, Integer.MAX_VALUE};
    private static final String[] TEXTS = {"keep if coin<100 or banned", "fair worth*2-arrear;draw 9", "ban if sacks*price>coin/kin",
        "grab;strike 0 clause 0", "step 0 1;step 1 1;step 2 1;step 3 1", "keep if not (out or [fear+1]*2>house) and grabs",
        "fair rent/estate if holds", "draw 100000*100000", "keep if week/0=1"};

    public static void main(String[] args) throws Exception {
        Check.part("wild calls");
        List<Method> face = new ArrayList<>();
        for (Method m : NoRent.class.getDeclaredMethods()) {
            if (Modifier.isPublic(m.getModifiers())) {
                face.add(m);
            }
        }
        face.sort(Comparator.comparing(Method::getName));
        for (int seed = 0; seed < 150; seed++) {
            wild(new Random(seed), face, seed);
        }
        Check.close();
    }

    private static void wild(Random random, List<Method> face, int seed) throws Exception {
        NoRent x = new NoRent();
        boolean tame = seed % 3 != 0;
        for (int call = 0; call < 1500; call++) {
            if (tame && random.nextInt(12) == 0) {
                Check.text(x, random.nextInt(400), TEXTS[random.nextInt(TEXTS.length)]);
            }
            Method m = face.get(random.nextInt(face.size()));
            if (m.getName().equals("choose") && random.nextInt(10) != 0) {
                continue;
            }
            Object[] args = new Object[m.getParameterCount()];
            for (int i = 0; i < args.length; i++) {
                int k = random.nextInt(10);
                args[i] = k == 0 ? random.nextInt() : tame && k < 7 ? (Object) random.nextInt(9) : (Object) EDGES[random.nextInt(EDGES.length)];
            }
            try {
                m.invoke(x, args);
            } catch (InvocationTargetException e) {
                e.getCause().printStackTrace(System.out);
                Check.due("seed " + seed + ", call " + call + " of " + m.getName() + " threw", false);
                return;
            }
        }
    }
}
