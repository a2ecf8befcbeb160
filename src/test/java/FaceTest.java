import java.lang.reflect.Constructor;
import java.lang.reflect.Field;
import java.lang.reflect.InvocationTargetException;
import java.lang.reflect.Method;
import java.lang.reflect.Modifier;
import java.util.Arrays;
import java.util.TreeSet;

/** The public face as the document writes it, and that no call throws, whatever it is given. */
public final class FaceTest {
    private static final String[] FACE = {
        "house(int,int)", "open(int,int)", "bearer(int)", "feed(int,long)", "law(int)", "place()",
        "says(int,int,int)", "casus(int,int,int,int)", "paper(int,int,int)", "may(int,int,int)",
        "promise(int,int,int)", "earliest(int,int,int)", "undo(int,int)", "promised(int,int,int)",
        "taken(int,int)", "count(int)", "plan(int)", "pay(int,int)", "rate(int)", "days(int)",
        "tie(int,int)", "settle(int)", "planned(int,int)"};
    private static final int[] ODD = {
        Integer.MIN_VALUE, Integer.MIN_VALUE + 1, -1004, -2, -1, 0, 1, 2, 3, 4, 5, 6, 7, 12, 16, 70, 399, 400, 1023,
        1024, 1000001, Integer.MAX_VALUE - 1, Integer.MAX_VALUE};

    private static final Due due = new Due();

    public static void main(String[] args) throws ReflectiveOperationException {
        constants();
        members();
        fields();
        theClass();
        oddArguments();
        due.end("FaceTest");
    }

    private static void constants() {
        due.is("NONE", HourPromised.NONE, -1);
        due.is("UNKNOWN", HourPromised.UNKNOWN, -1001);
        due.is("OUTSIDE", HourPromised.OUTSIDE, -1002);
        due.is("NOT", HourPromised.NOT, -1003);
        due.is("FULL", HourPromised.FULL, -1004);
    }

    private static void members() {
        TreeSet<String> shown = new TreeSet<>();
        TreeSet<String> names = new TreeSet<>();
        for (Method m : HourPromised.class.getDeclaredMethods()) {
            if (!Modifier.isPrivate(m.getModifiers())) {
                shown.add(told(m));
                names.add(m.getName());
                due.is(told(m) + " answers an int", m.getReturnType() == int.class ? 1 : 0, 1);
                due.is(told(m) + " is public and no more", m.getModifiers(), Modifier.PUBLIC);
                due.is(told(m) + " declares what it throws", m.getExceptionTypes().length, 0);
            }
        }
        TreeSet<String> wanted = new TreeSet<>(Arrays.asList(FACE));
        due.is("the methods " + shown + " of " + wanted, shown.equals(wanted) ? 1 : 0, 1);
        for (Method m : HourPromised.class.getDeclaredMethods()) {
            boolean hides = Modifier.isPrivate(m.getModifiers()) && names.contains(m.getName());
            due.is(m.getName() + " is private with a public name", hides ? 1 : 0, 0);
        }
    }

    private static void fields() {
        TreeSet<String> shown = new TreeSet<>();
        for (Field f : HourPromised.class.getDeclaredFields()) {
            if (Modifier.isPrivate(f.getModifiers())) {
                continue;
            }
            shown.add(f.getName());
            due.is(f + " is an int", f.getType() == int.class ? 1 : 0, 1);
            due.is(f + " is a constant", f.getModifiers(), Modifier.PUBLIC | Modifier.STATIC | Modifier.FINAL);
        }
        TreeSet<String> wanted = new TreeSet<>(Arrays.asList("NONE", "UNKNOWN", "OUTSIDE", "NOT", "FULL"));
        due.is("the constants " + shown + " of " + wanted, shown.equals(wanted) ? 1 : 0, 1);
    }

    private static void theClass() {
        Constructor<?>[] constructors = HourPromised.class.getDeclaredConstructors();
        due.is("constructors", constructors.length, 1);
        due.is("the constructor's parameters", constructors[0].getParameterCount(), 0);
        due.is("the constructor is public", constructors[0].getModifiers(), Modifier.PUBLIC);
        due.is("public and final", HourPromised.class.getModifiers(), Modifier.PUBLIC | Modifier.FINAL);
        due.is("in no package", HourPromised.class.getPackageName().length(), 0);
        // What it took over from another class or interface would be a public member, too.
        due.is("it extends nothing", HourPromised.class.getSuperclass() == Object.class ? 1 : 0, 1);
        due.is("it implements nothing", HourPromised.class.getInterfaces().length, 0);
        for (Class<?> inside : HourPromised.class.getDeclaredClasses()) {
            int how = inside.getModifiers();
            due.is(inside + " is static", Modifier.isStatic(how) ? 1 : 0, 1);
            due.is(inside + " is seen from outside", Modifier.isPublic(how) || Modifier.isProtected(how) ? 1 : 0, 0);
        }
    }

    private static String told(Method m) {
        StringBuilder sb = new StringBuilder(m.getName()).append('(');
        for (Class<?> type : m.getParameterTypes()) {
            sb.append(sb.charAt(sb.length() - 1) == '(' ? "" : ",").append(type.getName());
        }
        return sb.append(')').toString();
    }

    /** Each method with every row of odd numbers, on an object in which much is promised; at most 512 calls each. */
    private static void oddArguments() throws ReflectiveOperationException {
        for (Method m : HourPromised.class.getDeclaredMethods()) {
            if (!Modifier.isPublic(m.getModifiers())) {
                continue;
            }
            int rows = 1;
            for (int k = 0; k < m.getParameterCount(); k++) {
                rows *= ODD.length;
            }
            HourPromised x = null;
            for (int row = 0; row < rows; row += 1 + rows / 20000) {
                x = row % 250 == 0 || x == null ? busy() : x;
                callWith(x, m, row);
            }
        }
    }

    private static void callWith(HourPromised x, Method m, int row) throws ReflectiveOperationException {
        Object[] arguments = new Object[m.getParameterCount()];
        int left = row;
        for (int k = 0; k < arguments.length; k++) {
            int odd = ODD[left % ODD.length];
            left /= ODD.length;
            arguments[k] = m.getParameterTypes()[k] == long.class ? (Object) (odd * 4294967311L) : (Object) odd;
        }
        try {
            m.invoke(x, arguments);
        } catch (InvocationTargetException e) {
            due.is(told(m) + Arrays.toString(arguments) + " throws " + e.getCause(), 1, 0);
        }
    }

    private static HourPromised busy() {
        HourPromised x = new HourPromised();
        Due.tellLaw(x, 1, "f:A;s:f<90;b:s;g:s>2;");
        x.house(0, 4);
        for (int i = 0; i < 12; i++) {
            x.bearer(150 + 3 * i);
        }
        for (int c = 0; c < 15; c++) {
            x.casus(c % 4, c, c % 7, 5 * c);
            x.plan(100 * c);
            x.pay(c, 77 * c + 1);
            x.tie(c, c);
            x.paper(c, 0, 3);
            for (int step = 0; step < 3; step++) {
                x.promise(c, step, x.earliest(c, step, 10));
            }
        }
        return x;
    }
}
