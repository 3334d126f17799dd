import java.lang.reflect.Constructor;
import java.lang.reflect.Field;
import java.lang.reflect.Method;
import java.lang.reflect.Modifier;
import java.util.Arrays;
import java.util.Set;
import java.util.TreeSet;

/** The class's face is the document's, to the letter, and nothing more. */
public final class FaceTest {
    private static final String[] METHODS = {
        "int set(int,int,int)", "int of(int,int)", "int feed(int)", "int formula()", "int drop()",
        "int parts(int,int)", "int alike(int,int)", "long span(int,int)", "int way(int)", "long exact(int)",
        "long corner(int,int)", "int rises(int,int)", "long tight(int,int)", "long split(int,int,int,int)",
        "long best(int,int)", "int widest(int)", "int again(int,long,int)", "int fits(int,int,long,int)",
        "long odds(int,int,int,long,long,int)", "int plan(int,int,int)", "long ends(int)", "int judge(int)",
        "int list(int,int)", "int put(int,int,long)", "long get(int,int)", "int image()", "int undo()",
        "int count(int)"};
    private static final Expect EXPECT = new Expect("FaceTest");

    public static void main(String[] args) {
        constantsAre();
        EXPECT.holds("the class is public and final",
            (SpanKeeper.class.getModifiers() & (Modifier.PUBLIC | Modifier.FINAL))
                == (Modifier.PUBLIC | Modifier.FINAL));
        membersAre();
        for (Class<?> inside : SpanKeeper.class.getDeclaredClasses()) {
            EXPECT.holds(inside + " is static", Modifier.isStatic(inside.getModifiers()));
            EXPECT.holds(inside + " is not public", !Modifier.isPublic(inside.getModifiers()));
            namesAreOthers(inside);
        }
        namesAreOthers(SpanKeeper.class);
        EXPECT.finish();
    }

    private static void constantsAre() {
        long[] got = {SpanKeeper.NONE, SpanKeeper.BAD, SpanKeeper.STATE, SpanKeeper.FULL, SpanKeeper.NOT,
            SpanKeeper.PAST, SpanKeeper.NO, SpanKeeper.OVER};
        long[] want = {-1, -2, -3, -4, -5, -6, Long.MIN_VALUE, Long.MIN_VALUE + 1};
        for (int i = 0; i < want.length; i++) {
            EXPECT.due("constant " + i, got[i], want[i]);
        }
    }

    private static void membersAre() {
        Set<String> methods = new TreeSet<>();
        for (Method method : SpanKeeper.class.getDeclaredMethods()) {
            if (!Modifier.isPrivate(method.getModifiers())) {
                String types = Arrays.toString(method.getParameterTypes()).replaceAll("[\\[\\] ]", "");
                methods.add(method.getReturnType() + " " + method.getName() + "(" + types + ")");
            }
        }
        EXPECT.holds("methods are " + methods, methods.equals(new TreeSet<>(Arrays.asList(METHODS))));
        Set<String> fields = new TreeSet<>();
        for (Field field : SpanKeeper.class.getDeclaredFields()) {
            if (!Modifier.isPrivate(field.getModifiers())) {
                fields.add(field.getType() + " " + field.getName());
                EXPECT.holds(field + " is a public constant",
                    Modifier.isPublic(field.getModifiers()) && Modifier.isFinal(field.getModifiers()));
            }
            EXPECT.holds(field + " is final, if static",
                !Modifier.isStatic(field.getModifiers()) || Modifier.isFinal(field.getModifiers()));
        }
        EXPECT.holds("constants are " + fields, fields.equals(new TreeSet<>(Arrays.asList("int NONE", "int BAD",
            "int STATE", "int FULL", "int NOT", "int PAST", "long NO", "long OVER"))));
        Constructor<?>[] constructors = SpanKeeper.class.getDeclaredConstructors();
        EXPECT.due("constructors", constructors.length, 1);
        EXPECT.holds("the constructor is public and takes nothing",
            Modifier.isPublic(constructors[0].getModifiers()) && constructors[0].getParameterCount() == 0);
    }

    /** No method of ours bears the name of one of the face. */
    private static void namesAreOthers(Class<?> of) {
        for (Method method : of.getDeclaredMethods()) {
            boolean onFace = of == SpanKeeper.class && Modifier.isPublic(method.getModifiers());
            for (String face : METHODS) {
                String name = face.substring(face.indexOf(' ') + 1, face.indexOf('('));
                EXPECT.holds(method + " has a name of its own", onFace || !method.getName().equals(name));
            }
        }
    }
}
