import java.lang.reflect.Constructor;
import java.lang.reflect.Field;
import java.lang.reflect.Member;
import java.lang.reflect.Method;
import java.lang.reflect.Modifier;
import java.util.Arrays;
import java.util.Set;
import java.util.TreeSet;

/** The public face is the document's, no more and no less; private methods bear other names. */
public final class FaceTest {
    private static final String[] FACE = {
        "type(int,int)int", "wipe(int)int", "undo(int)int", "fault(int)int", "ship(int,int)int",
        "name(int,int)int", "line(int,int)int", "struck(int)int", "loss(int,int)int", "back()int",
        "read(int)int", "bearer(int,int)int", "borne(int,int)int", "unborne(int)int",
        "left(int,int)int", "behind(int,int)int", "paid(int,int)int", "first(int)int",
        "safe()int", "take(int)int", "strike(int,int)int", "seen(int,int)int", "forget()int",
        "sound(int)int", "press()int", "fair(int,int)long", "storm(int,int,int)long",
        "years(int,int,int,int)int", "sheet(int,int,int)int", "lose(int)int",
        "lay(int,int,int,int)int", "get(int,int,int)int", "copy(int,int,int,int,int)int",
        "write(int,int)int", "count(int)int", "digest()long"
    };

    public static void main(String[] args) {
        Check check = new Check();
        Class<?> face = DrownedNames.class;
        check.holds("the class is public and final",
            Modifier.isPublic(face.getModifiers()) && Modifier.isFinal(face.getModifiers()));
        Set<String> names = new TreeSet<>();
        Set<String> open = new TreeSet<>();
        for (Method m : face.getDeclaredMethods()) {
            if (!Modifier.isPrivate(m.getModifiers())) {
                open.add(told(m));
                names.add(m.getName());
                check.holds(m + " is public, not static",
                    Modifier.isPublic(m.getModifiers()) && !Modifier.isStatic(m.getModifiers()));
            }
        }
        check.holds("the methods are " + open, open.equals(new TreeSet<>(Arrays.asList(FACE))));
        Set<String> constants = new TreeSet<>();
        for (Field f : face.getDeclaredFields()) {
            if (!Modifier.isPrivate(f.getModifiers())) {
                constants.add(f.getName());
                check.holds(f + " is a constant", isConstant(f) && f.getType() == int.class);
            }
        }
        check.holds("the constants are " + constants,
            constants.equals(new TreeSet<>(Arrays.asList("NONE", "BAD", "NOT", "FULL"))));
        check.due("NONE", DrownedNames.NONE, -1);
        check.due("BAD", DrownedNames.BAD, -2);
        check.due("NOT", DrownedNames.NOT, -3);
        check.due("FULL", DrownedNames.FULL, -4);
        Constructor<?>[] made = face.getDeclaredConstructors();
        check.holds("one public constructor of nothing", made.length == 1
            && Modifier.isPublic(made[0].getModifiers()) && made[0].getParameterCount() == 0);
        checkPrivates(check, face, names);
        check.end();
    }

    private static void checkPrivates(Check check, Class<?> face, Set<String> names) {
        checkHidden(check, face, names);
        for (Class<?> inside : face.getDeclaredClasses()) {
            int m = inside.getModifiers();
            check.holds(inside + " is static, not public or protected",
                Modifier.isStatic(m) && !Modifier.isPublic(m) && !Modifier.isProtected(m));
            checkHidden(check, inside, names);
        }
    }

    private static void checkHidden(Check check, Class<?> where, Set<String> names) {
        for (Method m : where.getDeclaredMethods()) {
            if (where != DrownedNames.class || Modifier.isPrivate(m.getModifiers())) {
                check.holds(m + " bears a public name", !names.contains(m.getName()));
            }
        }
        for (Field f : where.getDeclaredFields()) {
            check.holds(f + " is static, but not final",
                !Modifier.isStatic(f.getModifiers()) || isConstant(f));
        }
    }

    private static boolean isConstant(Member f) {
        return Modifier.isStatic(f.getModifiers()) && Modifier.isFinal(f.getModifiers());
    }

    private static String told(Method m) {
        StringBuilder told = new StringBuilder(m.getName()).append('(');
        for (Class<?> p : m.getParameterTypes()) {
            told.append(told.charAt(told.length() - 1) == '(' ? "" : ",").append(p.getName());
        }
        return told.append(')').append(m.getReturnType().getName()).toString();
    }
}
