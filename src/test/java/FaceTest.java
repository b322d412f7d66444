import java.lang.reflect.Constructor;
import java.lang.reflect.Field;
import java.lang.reflect.Method;
import java.lang.reflect.Modifier;
import java.util.Arrays;
import java.util.Set;
import java.util.TreeSet;

/** Promise 1, and that the face is the document's and nothing beside it. */
public final class FaceTest {
    private static final String[] METHODS = {
        "boolean amount(int,long)",
        "boolean convert(int,int,int)",
        "boolean price(long)",
        "boolean sign(int)",
        "int at(int) throws IndexOutOfBoundsException",
        "int count(int)",
        "int missing(int)",
        "int node(int,int) throws IndexOutOfBoundsException",
        "int print() throws IllegalStateException",
        "int read()",
        "long cents(int) throws IllegalArgumentException,IllegalStateException,"
                + "UnsupportedOperationException",
        "long part(int) throws IndexOutOfBoundsException,UnsupportedOperationException",
        "long step(long,long) throws IllegalArgumentException,ArithmeticException",
        "long value(int) throws IllegalArgumentException,IllegalStateException,"
                + "UnsupportedOperationException",
    };

    public static void main(String[] args) {
        Check check = new Check("FaceTest");
        face(check);
        newObject(check);
        objectsAreApart(check);
        check.end();
    }

    private static void face(Check check) {
        Class<?> face = RateShapes.class;
        check.due("NONE", RateShapes.NONE, -1);
        check.due("class", Modifier.toString(face.getModifiers()), "public final");
        Set<String> methods = new TreeSet<>();
        Set<String> hidden = new TreeSet<>();
        for (Method m : face.getDeclaredMethods()) {
            if (Modifier.isPrivate(m.getModifiers())) {
                hidden.add(m.getName());
            } else {
                check.due(m.getName(), Modifier.toString(m.getModifiers()), "public");
                methods.add(head(m));
            }
        }
        check.due("methods", methods.toString(), new TreeSet<>(Arrays.asList(METHODS)).toString());
        for (String name : hidden) {
            check.due("a private " + name, Arrays.toString(METHODS).contains(" " + name + "("), false);
        }
        for (Field f : face.getDeclaredFields()) {
            boolean isPrivate = Modifier.isPrivate(f.getModifiers());
            check.due("field " + f.getName() + " is private", isPrivate, !f.getName().equals("NONE"));
        }
        for (Constructor<?> c : face.getDeclaredConstructors()) {
            check.due("constructor", c.toString(), "public RateShapes()");
        }
    }

    private static String head(Method m) {
        StringBuilder text = new StringBuilder();
        text.append(m.getReturnType()).append(' ').append(m.getName()).append('(');
        text.append(names(m.getParameterTypes())).append(')');
        if (m.getExceptionTypes().length > 0) {
            text.append(" throws ").append(names(m.getExceptionTypes()));
        }
        return text.toString();
    }

    private static String names(Class<?>[] types) {
        StringBuilder text = new StringBuilder();
        for (Class<?> type : types) {
            text.append(text.length() == 0 ? "" : ",").append(type.getSimpleName());
        }
        return text.toString();
    }

    private static void newObject(Check check) {
        RateShapes x = new RateShapes();
        for (int what = 0; what < 4; what++) {
            check.due("new: count " + what, x.count(what), 0);
        }
        check.due("new: missing", x.missing(0), RateShapes.NONE);
        check.dueThrow("new: value", IllegalStateException.class, () -> x.value(0));
        check.dueThrow("new: cents", IllegalStateException.class, () -> x.cents(0));
        check.dueThrow("new: node", IndexOutOfBoundsException.class, () -> x.node(0, 0));
        check.dueThrow("new: part", IndexOutOfBoundsException.class, () -> x.part(0));
        check.dueThrow("new: print", IllegalStateException.class, () -> x.print());
        check.dueThrow("new: at", IndexOutOfBoundsException.class, () -> x.at(0));
        check.due("new: read", x.read(), -1);

        RateShapes priced = Check.withTree("100%");
        check.due("new: the price is 0", priced.part(0), 0);
        RateShapes units = Check.withTree("1/A+1/B+1/C+1/D+1/E+1/F+1/G+1/H");
        for (int unit = 0; unit < 8; unit++) {
            check.due("new: no amount of " + unit, units.missing(unit), unit);
        }
    }

    private static void objectsAreApart(Check check) {
        RateShapes x = Check.withTree("1/A + 100%");
        x.price(5);
        x.amount(0, 1000);
        x.print();
        x.sign('1');
        RateShapes y = new RateShapes();
        check.due("apart: signs", y.count(0), 0);
        check.due("apart: nodes", y.count(1), 0);
        check.due("apart: printed", y.count(2), 0);
        check.due("apart: read", Check.read(y, "1/A"), 1);
        check.due("apart: missing", y.missing(0), 0);
        check.due("apart: the other's value", x.value(0), 6);
    }
}
