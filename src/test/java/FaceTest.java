import java.lang.reflect.Constructor;
import java.lang.reflect.Field;
import java.lang.reflect.Method;
import java.lang.reflect.Modifier;
import java.util.HashSet;
import java.util.Set;
import java.util.TreeSet;

/** The public face: exactly the constants, the constructor and the methods of the document. */
public final class FaceTest {
    private static final String I = "IndexOutOfBoundsException";
    private static final String A = "IllegalArgumentException";
    private static final String S = "IllegalStateException";

    private static final String[] METHODS = {
        "int person(int,boolean) " + A + " " + S,
        "int child(int,int) " + I + " " + A + " " + S,
        "int guard(int,int) " + I + " " + A + " " + S,
        "int thing(int,int) " + I + " " + A + " " + S,
        "boolean isAble(int) " + I,
        "int draft(int,int,int,int,int,int) " + I + " " + A + " " + S,
        "int power(int,int,int,int,boolean) " + I + " " + A + " " + S,
        "int will(int,int,int,int) " + I + " " + A + " " + S,
        "int sign(int,int,boolean,int) " + I + " " + S,
        "int add(int,int) " + I + " " + A + " " + S,
        "int witness(int,int) " + I + " " + S,
        "int close(int) " + I + " " + S,
        "int deed(int,int) " + I + " " + A,
        "char label(int,int) " + I,
        "boolean revoke(int,boolean) " + I + " " + S,
        "boolean isGood(int) " + I,
        "int copy(int) " + I + " " + S,
        "int lose(int) " + I + " " + S,
        "int proof(int) " + I,
        "int enter(int) " + I + " " + S,
        "int die(int) " + I + " " + S,
        "int entry(int,int) " + I + " " + A,
        "int entries()",
        "int search(int,int,int) " + I + " " + A,
        "int pledge(int,int) " + I,
        "int share(int,int,boolean) " + I,
        "int shareAnew(int,int,boolean) " + I,
        "long duties()",
        "int pass(int) " + A,
    };

    private static final Object[][] CONSTANTS = {
        {"NONE", -1},
        {"SALE", 0}, {"GIFT", 1}, {"PLEDGE", 2}, {"POWER", 3}, {"WILL", 4}, {"DEATH", 5},
        {"GIVEN", 1}, {"TAKEN", 2}, {"READ", 4}, {"WITNESSED", 8}, {"TOLD", 16},
        {"DRAFTED", 0}, {"FULL", 1}, {"LESSER", 2}, {"VOID", 3},
    };

    public static void main(String[] args) throws Exception {
        Check.yes("the class is public and final",
                (DeedProtocol.class.getModifiers() & (Modifier.PUBLIC | Modifier.FINAL))
                        == (Modifier.PUBLIC | Modifier.FINAL));
        checkMethods();
        checkConstants();
        checkConstructor();
        checkClassesInside();
        Check.end();
    }

    private static void checkMethods() {
        Set<String> due = new TreeSet<>();
        for (String method : METHODS) {
            due.add(method);
        }
        Set<String> publicNames = new HashSet<>();
        Set<String> got = new TreeSet<>();
        for (Method method : DeedProtocol.class.getDeclaredMethods()) {
            if (!Modifier.isPrivate(method.getModifiers())) {
                got.add(written(method));
                publicNames.add(method.getName());
            }
        }
        if (!due.equals(got)) {
            Check.report("the methods are " + got + ", due are " + due);
        }
        for (Method method : DeedProtocol.class.getDeclaredMethods()) {
            if (Modifier.isPrivate(method.getModifiers()) && publicNames.contains(method.getName())) {
                Check.report("a private method bears the public name " + method.getName());
            }
        }
    }

    private static String written(Method method) {
        StringBuilder text = new StringBuilder();
        text.append(method.getReturnType().getName()).append(' ').append(method.getName()).append('(');
        Class<?>[] types = method.getParameterTypes();
        for (int i = 0; i < types.length; i++) {
            text.append(i == 0 ? "" : ",").append(types[i].getName());
        }
        text.append(')');
        for (Class<?> thrown : method.getExceptionTypes()) {
            text.append(' ').append(thrown.getSimpleName());
        }
        return text.toString();
    }

    private static void checkConstants() throws Exception {
        int open = 0;
        for (Field field : DeedProtocol.class.getDeclaredFields()) {
            open += Modifier.isPrivate(field.getModifiers()) ? 0 : 1;
        }
        Check.equal("how many constants", open, CONSTANTS.length);
        for (Object[] constant : CONSTANTS) {
            Field field = DeedProtocol.class.getField((String) constant[0]);
            Check.equal((String) constant[0], field.getInt(null), (Integer) constant[1]);
            Check.equal("modifiers of " + constant[0], field.getModifiers(),
                    Modifier.PUBLIC | Modifier.STATIC | Modifier.FINAL);
        }
    }

    private static void checkConstructor() {
        Constructor<?>[] all = DeedProtocol.class.getDeclaredConstructors();
        Check.equal("how many constructors", all.length, 1);
        Check.yes("the constructor is public", Modifier.isPublic(all[0].getModifiers()));
        Check.equal("its parameters", all[0].getParameterCount(), 0);
    }

    private static void checkClassesInside() {
        for (Class<?> inside : DeedProtocol.class.getDeclaredClasses()) {
            int modifiers = inside.getModifiers();
            Check.yes(inside.getName() + " is static", Modifier.isStatic(modifiers));
            Check.no(inside.getName() + " is public or protected",
                    Modifier.isPublic(modifiers) || Modifier.isProtected(modifiers));
        }
    }
}
