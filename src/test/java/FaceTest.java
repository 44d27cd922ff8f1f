import java.lang.reflect.Constructor;
import java.lang.reflect.Field;
import java.lang.reflect.Method;
import java.lang.reflect.Modifier;
import java.util.Set;
import java.util.TreeSet;

/** The public face is the document's and nothing more (LANGUAGE.md, rules 1, 2, 5, 11). */
public final class FaceTest {
    private static final String FACE = "person:3 heed:2 goes:2 coin:2 give:1 estate:2 field:4 of:2 tells:2 owner:2 fund:0 "
        + "price:2 row:2 crop:2 feed:5 end:1 text:1 fault:0 force:3 holds:4 writ:1 avoid:1 guard:3 take:3 go:1 deal:3 "
        + "brave:1 keeps:2 broke:4 last:3 least:2 offer:2 agree:2 wish:1 clear:0 crops:2 choose:1 chosen:1 judge:2 "
        + "beside:1 seal:0 alter:2 found:0 image:1 back:1 count:1 status:0";

    public static void main(String[] args) throws Exception {
        Check.part("the face");
        Set<String> due = new TreeSet<>();
        Set<String> names = new TreeSet<>();
        for (String method : FACE.split(" ")) {
            due.add(method);
            names.add(method.substring(0, method.indexOf(':')));
        }
        Check.due("48 promises less the constructor", due.size(), 47);
        Set<String> is = new TreeSet<>();
        for (Method m : NoRent.class.getDeclaredMethods()) {
            if (Modifier.isPublic(m.getModifiers())) {
                is.add(m.getName() + ":" + m.getParameterCount());
                Check.due(m.getName() + " answers", m.getReturnType() == (m.getName().equals("beside") ? long.class : int.class));
                for (Class<?> p : m.getParameterTypes()) {
                    Check.due(m.getName() + " takes ints", p == int.class);
                }
                Check.due(m.getName() + " is of the object", !Modifier.isStatic(m.getModifiers()));
            } else {
                Check.due(m.getName() + " is private", Modifier.isPrivate(m.getModifiers()));
                Check.due(m.getName() + " has a name of its own", !names.contains(m.getName()));
            }
        }
        Check.due("the methods are " + is, is.equals(due));
        for (Field f : NoRent.class.getDeclaredFields()) {
            boolean none = f.getName().equals("NONE");
            Check.due(f.getName() + " is private", Modifier.isPrivate(f.getModifiers()) != none);
        }
        Check.due("NONE", NoRent.NONE, -1);
        Constructor<?>[] made = NoRent.class.getDeclaredConstructors();
        Check.due("one constructor", made.length, 1);
        Check.due("it is public", Modifier.isPublic(made[0].getModifiers()) && made[0].getParameterCount() == 0);
        Check.due("final", Modifier.isFinal(NoRent.class.getModifiers()) && Modifier.isPublic(NoRent.class.getModifiers()));
        inside(names);
        Check.close();
    }

    private static void inside(Set<String> names) {
        Class<?>[] classes = NoRent.class.getDeclaredClasses();
        Check.due("some twelve classes", classes.length <= 12);
        for (Class<?> c : classes) {
            int kind = c.getModifiers();
            Check.due(c + " is static", Modifier.isStatic(kind));
            Check.due(c + " is not to be seen", !Modifier.isPublic(kind) && !Modifier.isProtected(kind));
            int fields = 0;
            for (Field f : c.getDeclaredFields()) {
                fields += Modifier.isStatic(f.getModifiers()) ? 0 : 1;
            }
            Check.due(c + " has some twenty fields", fields <= 20);
            for (Method m : c.getDeclaredMethods()) {
                Check.due(c + "." + m.getName() + " has a name of its own", !names.contains(m.getName()));
                Check.due(c + "." + m.getName() + " takes seven at most", m.getParameterCount() <= 7);
            }
        }
    }
}
