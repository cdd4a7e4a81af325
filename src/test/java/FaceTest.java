import java.lang.reflect.Constructor;
import java.lang.reflect.Field;
import java.lang.reflect.Method;
import java.lang.reflect.Modifier;
import java.util.Set;
import java.util.TreeSet;

/** The public face of the document, with nothing beside it, as LANGUAGE.md's rule 1 asks for. */
public final class FaceTest {
    private static final String INDEX = " IndexOutOfBoundsException", ARGUMENT = " IllegalArgumentException", STATE = " IllegalStateException";
    private static final String[] METHODS = {
        "int call(int)" + INDEX + STATE,
        "int shut(int)" + INDEX + STATE,
        "int uncross(int)" + INDEX + STATE,
        "boolean setShares(int,boolean)" + INDEX,
        "void setBand(int,int,int)" + INDEX + ARGUMENT,
        "int deposit(int,int)" + INDEX + ARGUMENT + STATE,
        "int setShare(int,int)" + INDEX + ARGUMENT + STATE,
        "int setCapital(int)" + ARGUMENT,
        "int protect(int,int)" + INDEX + ARGUMENT,
        "int setMove(int,int,int)" + INDEX + ARGUMENT,
        "int order(int,int,boolean,int,int,int)" + INDEX + ARGUMENT + STATE,
        "int now(int,int,boolean,int,int)" + INDEX + ARGUMENT + STATE,
        "int stop(int,int,boolean,int,int,int)" + INDEX + ARGUMENT + STATE,
        "int quote(int,int,int,int,int)" + INDEX + ARGUMENT + STATE,
        "int cancel(int)" + INDEX + STATE,
        "int bust(int)" + INDEX + STATE,
        "int bid(int,int)" + INDEX + ARGUMENT + STATE,
        "int fail(int)" + INDEX + STATE,
        "int phase(int)" + INDEX,
        "int orders()",
        "int state(int)" + INDEX,
        "int left(int)" + INDEX,
        "int shows(int)" + INDEX,
        "int best(int,boolean)" + INDEX,
        "int bestByAll(int,boolean)" + INDEX,
        "int way(int,boolean)" + INDEX,
        "int wayPrice(int,boolean)" + INDEX,
        "int auction(int)" + INDEX,
        "int mark(int)" + INDEX,
        "int middle(int)" + INDEX,
        "int trades()",
        "int trade(int,int)" + INDEX + ARGUMENT,
        "int position(int,int)" + INDEX,
        "int positionByTrades(int,int)" + INDEX,
        "int cash(int)" + INDEX,
        "int funds(int)" + INDEX,
        "int margin(int)" + INDEX,
        "int need(int)" + INDEX,
        "int share(int)" + INDEX,
        "boolean isOut(int)" + INDEX,
        "int capital()",
        "int uncovered()"
    };
    private static final String[] CONSTANTS = {
        "NONE=-1", "NO_PRICE=-10000", "SHUT=0", "CALL=1", "OPEN=2", "HALTED=3", "WAITING=0", "RESTING=1", "DONE=2",
        "CANCELLED=3", "CONTRACT=0", "BUYER=1", "SELLER=2", "PRICE=3", "SIZE=4", "BUSTED=5"
    };

    public static void main(String[] args) throws IllegalAccessException {
        Class<?> face = BookExchange.class;
        Checks.due("the class is public and final", Modifier.isPublic(face.getModifiers()) && Modifier.isFinal(face.getModifiers()), true);
        Constructor<?>[] made = face.getDeclaredConstructors();
        Checks.due("constructors", made.length, 1);
        Checks.due("the constructor is public, of nothing", Modifier.isPublic(made[0].getModifiers()) && made[0].getParameterCount() == 0, true);
        methods(face);
        fields(face);
        for (Class<?> inside : face.getDeclaredClasses()) {
            boolean isFine = Modifier.isStatic(inside.getModifiers())
                && !Modifier.isPublic(inside.getModifiers()) && !Modifier.isProtected(inside.getModifiers());
            Checks.due(inside.getName() + " is static and not public", isFine, true);
        }
        Checks.due("classes inside, of which there may be some twelve", face.getDeclaredClasses().length <= 12, true);
        Checks.end("FaceTest");
    }

    private static void methods(Class<?> face) {
        Set<String> due = new TreeSet<>(Set.of(METHODS));
        Set<String> names = new TreeSet<>();
        for (Method method : face.getDeclaredMethods()) {
            if (method.isSynthetic() || Modifier.isPrivate(method.getModifiers())) {
                continue;
            }
            Checks.due(told(method) + " is public", Modifier.isPublic(method.getModifiers()) && !Modifier.isStatic(method.getModifiers()), true);
            Checks.due(told(method) + " is due", due.remove(told(method)), true);
            names.add(method.getName());
        }
        Checks.due("missing: " + due, due.size(), 0);
        for (Method method : face.getDeclaredMethods()) {
            if (Modifier.isPrivate(method.getModifiers())) {
                Checks.due("private " + method.getName() + " bears a public name", names.contains(method.getName()), false);
            }
            Checks.due(method.getName() + " takes at most seven", method.getParameterCount() <= 7, true);
        }
    }

    private static String told(Method method) {
        StringBuilder text = new StringBuilder();
        text.append(method.getReturnType().getSimpleName()).append(' ').append(method.getName()).append('(');
        for (int i = 0; i < method.getParameterCount(); i++) {
            text.append(i > 0 ? "," : "").append(method.getParameterTypes()[i].getSimpleName());
        }
        text.append(')');
        for (Class<?> thrown : method.getExceptionTypes()) {
            text.append(' ').append(thrown.getSimpleName());
        }
        return text.toString();
    }

    private static void fields(Class<?> face) throws IllegalAccessException {
        Set<String> due = new TreeSet<>(Set.of(CONSTANTS));
        for (Field field : face.getDeclaredFields()) {
            int is = field.getModifiers();
            if (Modifier.isPrivate(is) || field.isSynthetic()) {
                continue;
            }
            Checks.due(field.getName() + " is a constant", Modifier.isPublic(is) && Modifier.isStatic(is) && Modifier.isFinal(is), true);
            Checks.due(field.getName() + " is due", due.remove(field.getName() + "=" + field.get(null)), true);
        }
        Checks.due("missing: " + due, due.size(), 0);
    }
}
