import java.lang.reflect.Constructor;
import java.lang.reflect.Field;
import java.lang.reflect.Method;
import java.lang.reflect.Modifier;
import java.util.Set;
import java.util.TreeMap;
import java.util.TreeSet;

/** The public face: just the members that the document tells, and nothing of the inside that can be seen. */
public final class FaceTest {
    private static final String METHODS = "wreck 5,told 2,as 2,turns 2,set 3,sweep 1,drag 1,at 2,deal 1,seed 1,hours 1,sky 1,behind 2,"
        + "first 0,hole 1,open 1,best 2,push 3,under 2,nearest 2,seen 2,fee 0,fine 1,feed 3,trim 1,text 0,textTold 2,why 1,sheet 3,"
        + "mark 3,pour 1,reads 1,copy 5,lay 3,ask 2,item 2,rest 2,tell 1,check 1,keep 0,back 0,count 1";
    private static final Due DUE = new Due("FaceTest");

    public static void main(String[] args) throws Exception {
        Class<?> c = WreckSky.class;
        DUE.holds("public", Modifier.isPublic(c.getModifiers()));
        DUE.holds("final", Modifier.isFinal(c.getModifiers()));
        constants(c);
        constructors(c);
        methods(c);
        inside(c);
        DUE.end();
    }

    private static void constants(Class<?> c) throws Exception {
        TreeMap<String, Integer> want = new TreeMap<>();
        want.put("BAD", -1000000001);
        want.put("NO", -1000000002);
        want.put("FULL", -1000000003);
        want.put("NONE", -1000000005);
        want.put("NOTHING", -1000000011);
        want.put("KIND", -1000000012);
        want.put("INDEX", -1000000013);
        want.put("SIZE", -1000000014);
        int seen = 0;
        for (Field f : c.getDeclaredFields()) {
            if (want.containsKey(f.getName())) {
                seen++;
                DUE.is(f.getName(), f.getInt(null), want.get(f.getName()));
                DUE.is(f.getName() + " is public static final", f.getModifiers(), Modifier.PUBLIC | Modifier.STATIC | Modifier.FINAL);
            } else {
                DUE.holds(f.getName() + " is private", Modifier.isPrivate(f.getModifiers()));
            }
        }
        DUE.is("constants", seen, want.size());
    }

    private static void constructors(Class<?> c) {
        Constructor<?>[] all = c.getDeclaredConstructors();
        DUE.is("constructors", all.length, 1);
        DUE.is("its parameters", all[0].getParameterCount(), 0);
        DUE.holds("it is public", Modifier.isPublic(all[0].getModifiers()));
    }

    private static void methods(Class<?> c) {
        Set<String> want = new TreeSet<>(Set.of(METHODS.split(",")));
        Set<String> names = new TreeSet<>();
        for (String w : want) {
            names.add(w.split(" ")[0]);
        }
        Set<String> seen = new TreeSet<>();
        for (Method m : c.getDeclaredMethods()) {
            if (Modifier.isPrivate(m.getModifiers())) {
                DUE.holds(m.getName() + " is no public name", !names.contains(m.getName()));
                continue;
            }
            seen.add(m.getName() + " " + m.getParameterCount());
            DUE.is(m.getName() + " is public and no more", m.getModifiers(), Modifier.PUBLIC);
            DUE.holds(m.getName() + " answers an int", m.getReturnType() == int.class);
            for (Class<?> p : m.getParameterTypes()) {
                DUE.holds(m.getName() + " takes ints", p == int.class);
            }
        }
        DUE.holds("methods are " + seen, seen.equals(want));
    }

    private static void inside(Class<?> c) {
        DUE.holds("at most twelve classes", c.getDeclaredClasses().length <= 11);
        for (Class<?> k : c.getDeclaredClasses()) {
            DUE.holds(k + " is static", Modifier.isStatic(k.getModifiers()));
            DUE.holds(k + " is not public", !Modifier.isPublic(k.getModifiers()) && !Modifier.isProtected(k.getModifiers()));
            int fields = 0;
            for (Field f : k.getDeclaredFields()) {
                fields += Modifier.isStatic(f.getModifiers()) ? 0 : 1;
                DUE.holds(f + " is final, if static", !Modifier.isStatic(f.getModifiers()) || Modifier.isFinal(f.getModifiers()));
            }
            DUE.holds(k + " has at most twenty fields", fields <= 20);
        }
    }
}
