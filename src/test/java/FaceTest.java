import java.lang.reflect.Constructor;
import java.lang.reflect.Field;
import java.lang.reflect.Method;
import java.lang.reflect.Modifier;
import java.util.Arrays;
import java.util.TreeSet;

/** The public face: constants, constructor, methods, and nothing else that could be seen from outside. */
public final class FaceTest {
    private static final String[] METHODS = {
        "newCase/3", "witness/2", "isOf/2", "needs/2", "fold/2", "told/2", "inList/2", "rule/2", "weight/2", "cost/2",
        "best/1", "call/3", "called/2", "plan/1", "fate/2", "begins/2", "waited/2", "idle/2", "waits/0", "pay/1",
        "apart/3", "room/1", "move/2", "notice/2", "read/1", "sheet/2", "mark/3", "copy/5", "take/1", "count/1"};

    public static void main(String[] args) {
        Due d = new Due();
        d.due("BAD", CourtHouse.BAD, Due.BAD);
        d.due("NO", CourtHouse.NO, Due.NO);
        d.due("FULL", CourtHouse.FULL, Due.FULL);
        d.due("NONE", CourtHouse.NONE, Due.NONE);
        d.due("NOTHING", CourtHouse.NOTHING, Due.NOTHING);
        d.due("INDEX", CourtHouse.INDEX, Due.INDEX);
        d.due("SIZE", CourtHouse.SIZE, Due.SIZE);
        int mods = CourtHouse.class.getModifiers();
        d.due("class is public final", Modifier.isPublic(mods) && Modifier.isFinal(mods) ? 1 : 0, 1);
        methods(d);
        fields(d);
        Constructor<?>[] made = CourtHouse.class.getDeclaredConstructors();
        d.due("constructors", made.length, 1);
        d.due("constructor is public, of nothing",
                Modifier.isPublic(made[0].getModifiers()) && made[0].getParameterCount() == 0 ? 1 : 0, 1);
        for (Class<?> inside : CourtHouse.class.getDeclaredClasses()) {
            int m = inside.getModifiers();
            d.due(inside.getName() + " is static, not public",
                    Modifier.isStatic(m) && !Modifier.isPublic(m) && !Modifier.isProtected(m) ? 1 : 0, 1);
        }
        d.end("FaceTest");
    }

    private static void methods(Due d) {
        TreeSet<String> open = new TreeSet<>();
        TreeSet<String> names = new TreeSet<>();
        for (String name : METHODS) {
            names.add(name.substring(0, name.indexOf('/')));
        }
        for (Method m : CourtHouse.class.getDeclaredMethods()) {
            if (Modifier.isPrivate(m.getModifiers())) {
                d.due("private " + m.getName() + " bears a public name", names.contains(m.getName()) ? 1 : 0, 0);
                continue;
            }
            open.add(m.getName() + "/" + m.getParameterCount());
            boolean plain = m.getReturnType() == long.class && m.getModifiers() == Modifier.PUBLIC;
            for (Class<?> p : m.getParameterTypes()) {
                plain = plain && p == int.class;
            }
            d.due(m.getName() + " takes ints and answers long", plain ? 1 : 0, 1);
        }
        d.due("methods " + open, open.equals(new TreeSet<>(Arrays.asList(METHODS))) ? 1 : 0, 1);
        for (Class<?> inside : CourtHouse.class.getDeclaredClasses()) {
            for (Method m : inside.getDeclaredMethods()) {
                d.due(inside.getName() + "." + m.getName() + " bears a public name", names.contains(m.getName()) ? 1 : 0, 0);
            }
        }
    }

    private static void fields(Due d) {
        int seen = 0;
        for (Field f : CourtHouse.class.getDeclaredFields()) {
            int m = f.getModifiers();
            if (!Modifier.isPrivate(m)) {
                seen++;
                boolean constant = Modifier.isPublic(m) && Modifier.isStatic(m) && Modifier.isFinal(m);
                d.due(f.getName() + " is a public constant", constant && f.getType() == long.class ? 1 : 0, 1);
            }
            d.due(f.getName() + " is final, if static", !Modifier.isStatic(m) || Modifier.isFinal(m) ? 1 : 0, 1);
        }
        d.due("constants", seen, 7);
    }
}
