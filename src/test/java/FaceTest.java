import java.lang.reflect.Constructor;
import java.lang.reflect.Field;
import java.lang.reflect.Method;
import java.lang.reflect.Modifier;
import java.util.Set;
import java.util.TreeSet;

/** The public face, and that no call throws whatever its arguments are. */
public final class FaceTest {
    private static final Set<String> CALLS = Set.of("span(int)", "layer(int)", "points(int)", "sets(int,int,int)",
        "empties(int)", "draw(int,int)", "bound(int,int,int)", "judge(int,int)", "misfit(int,int,int)",
        "match(int,int)", "block(int,int)", "many()", "alike()", "begins()", "from(int)", "mildest(int)", "unbound()",
        "age(int)", "depth(int)", "rate(int)", "fastest(int)", "part(int)", "type(int)", "clear()", "reads()",
        "told(int)", "digest()");
    private static final Set<String> CONSTANTS = Set.of("NONE", "BAD", "NO", "FULL");
    private static final int[] ODD = {Integer.MIN_VALUE, -2, -1, 0, 1, 2, 3, 5, 7, 8, 9, 15, 16, 17, 99, 100, 120, 127,
        128, 792, 793, 1584, 1585, 999999, 1000000, Integer.MAX_VALUE - 1, Integer.MAX_VALUE};

    public static void main(String[] args) throws Exception {
        members();
        oddNumbers();
        Due.end();
    }

    private static void members() {
        Due.is("public and final", PoleRecords.class.getModifiers(), Modifier.PUBLIC | Modifier.FINAL);
        Set<String> calls = new TreeSet<>();
        for (Method method : PoleRecords.class.getDeclaredMethods()) {
            boolean isPrivate = Modifier.isPrivate(method.getModifiers());
            if (!isPrivate) {
                String whole = method.toGenericString();
                calls.add(method.getName() + whole.substring(whole.indexOf('(')));
            }
            boolean bearsPublicName = CALLS.stream().anyMatch(c -> c.startsWith(method.getName() + "("));
            Due.is(method + ": private with a public name", isPrivate && bearsPublicName ? 1 : 0, 0);
            Class<?> answer = method.getName().equals("digest") ? long.class : int.class;
            Due.is(method + ": its answer", isPrivate || method.getReturnType() == answer ? 1 : 0, 1);
        }
        Due.is("the calls " + calls, calls.equals(CALLS) ? 1 : 0, 1);
        for (Field field : PoleRecords.class.getDeclaredFields()) {
            boolean isConstant = CONSTANTS.contains(field.getName()) && Modifier.isPublic(field.getModifiers());
            Due.is(field + ": private or a constant", isConstant || Modifier.isPrivate(field.getModifiers()) ? 1 : 0, 1);
        }
        Constructor<?>[] made = PoleRecords.class.getDeclaredConstructors();
        Due.is("one constructor", made.length, 1);
        Due.is("without arguments", made[0].getParameterCount(), 0);
    }

    /** In four states: new, SPANS alone, LAYERS alone, both full with a full TEXT. */
    private static void oddNumbers() throws Exception {
        for (int state = 0; state < 4; state++) {
            for (Method method : PoleRecords.class.getDeclaredMethods()) {
                if (Modifier.isPublic(method.getModifiers())) {
                    callOddly(state, method);
                }
            }
        }
    }

    private static void callOddly(int state, Method method) throws Exception {
        int count = method.getParameterCount();
        int runs = count == 0 ? 1 : count == 1 ? ODD.length : count == 2 ? ODD.length * ODD.length
            : ODD.length * ODD.length * ODD.length;
        PoleRecords x = inState(state);
        for (int run = 0; run < runs; run++) {
            if (run % 100 == 99) {
                x = inState(state);
            }
            Object[] arguments = new Object[count];
            int rest = run;
            for (int k = 0; k < count; k++) {
                arguments[k] = ODD[rest % ODD.length];
                rest /= ODD.length;
            }
            method.invoke(x, arguments);
        }
        Due.is(method.getName() + " in state " + state + " answers the same twice", x.digest(), x.digest());
    }

    private static PoleRecords inState(int state) {
        PoleRecords x = new PoleRecords();
        if (state == 1 || state == 3) {
            for (int k = 0; k < 16; k++) {
                x.span(1 + k);
            }
        }
        if (state == 2 || state == 3) {
            for (int k = 0; k < 8; k++) {
                x.layer(1 + 2 * k);
            }
        }
        if (state == 3) {
            Due.types(x, "years " + "1 ".repeat(57));
        }
        return x;
    }
}
