import java.lang.reflect.Constructor;
import java.lang.reflect.Field;
import java.lang.reflect.Method;
import java.lang.reflect.Modifier;
import java.util.Set;
import java.util.TreeSet;

/** The public face is the document's, and nothing else of the class can be seen. */
public final class FaceTest {
    private static final String[] FACE = {
        "int feed(int,int,int,int,int)", "int shop(int)", "int fault()", "int count(int)",
        "int aisle(int,int)", "int person(int,int)", "int route(int,int)", "int far(int,int)",
        "boolean watch(int,int)", "boolean open(boolean)", "int stops(int)", "int mirror(int,int)",
        "int stock(int,int)", "int days(int)", "int undo()", "int day(int)", "int where(int,int)",
        "int eyes(int)", "int has(int,int)", "int best(int,int)", "int cost(boolean)", "int glass(int)",
        "int lay()", "int laid(int)", "int without(int)", "int sign(int,boolean)", "int odds(int,int)",
        "int line()", "int gate(int,int,int,int,int)", "int miss(int,int)", "void forget()",
        "int who(int)", "int game(int)", "int weeks(int,int,int)", "void image()", "boolean restore()",
    };

    public static void main(String[] args) {
        Set<String> want = new TreeSet<>(Set.of(FACE));
        Set<String> got = new TreeSet<>();
        Set<String> names = new TreeSet<>();
        for (Method m : ShopEyes.class.getDeclaredMethods()) {
            if (!Modifier.isPrivate(m.getModifiers())) {
                got.add(written(m));
                names.add(m.getName());
                Check.due(m.getName() + " is public alone", Modifier.PUBLIC, m.getModifiers());
            }
        }
        Check.due("the methods " + got, true, got.equals(want));
        Check.due("final", true, Modifier.isFinal(ShopEyes.class.getModifiers()));
        Constructor<?>[] made = ShopEyes.class.getDeclaredConstructors();
        Check.due("constructors", 1, made.length);
        Check.due("constructor's parameters", 0, made[0].getParameterCount());
        for (Field f : ShopEyes.class.getDeclaredFields()) {
            Check.due(f.getName() + " can be seen", f.getName().equals("NONE"), !Modifier.isPrivate(f.getModifiers()));
        }
        Check.due("NONE", -1, ShopEyes.NONE);
        noPrivateMethodHasAPublicName(ShopEyes.class, names);
        for (Class<?> inside : ShopEyes.class.getDeclaredClasses()) {
            Check.due(inside + " is static", true, Modifier.isStatic(inside.getModifiers()));
            Check.due(inside + " is hidden", false, Modifier.isPublic(inside.getModifiers()));
            noPrivateMethodHasAPublicName(inside, names);
        }
        Check.end("FaceTest");
    }

    private static void noPrivateMethodHasAPublicName(Class<?> where, Set<String> names) {
        for (Method m : where.getDeclaredMethods()) {
            boolean hidden = Modifier.isPrivate(m.getModifiers());
            Check.due(where + "." + m.getName() + " bears a public name", false, hidden && names.contains(m.getName()));
        }
    }

    private static String written(Method m) {
        StringBuilder row = new StringBuilder(m.getReturnType() + " " + m.getName() + "(");
        for (Class<?> type : m.getParameterTypes()) {
            row.append(row.charAt(row.length() - 1) == '(' ? "" : ",").append(type);
        }
        return row.append(')').toString();
    }
}
