import java.lang.reflect.Constructor;
import java.lang.reflect.Field;
import java.lang.reflect.Method;
import java.lang.reflect.Modifier;
import java.util.ArrayList;
import java.util.List;
import java.util.TreeSet;

/** The public face is that of the document, and nothing else can be seen from outside. */
public final class FaceTest {
    private static final String[] METHODS = {
        "int skill(int,int)", "int match(int,int,int)", "int goal(int,int,int)", "int ofMatch(int,int)",
        "long likely(int,int,int,int,int,int)", "int set(int,int)", "int price(int,int,int,int)",
        "int lean(int,int,int)", "int greatest(int,int)", "int stake(int,int,int,int,int)", "int gain(int)",
        "int answer(int,int,int)", "int one(int)", "int meet(int,int,int)", "int knew(int,int,int)",
        "int own(int,int)", "int begin(int,int)", "int news(int,int)", "int explained(int,int)",
        "int moves(int,int,int)", "long late(int,int,int)", "int debts(int,int)", "int act(int,int)",
        "int needed(int,int)", "int joined(int,int)", "int ring(int)", "int holds(int,int)",
        "int story(int,int,int,int)", "int untrue(int)", "int take(int,int)", "int table(int)",
        "int ofSide(int,int)", "int say(int)", "int wipe()", "int fault()", "int rule()", "int proof(int,int)",
        "int cost(int,int)", "int looks(int,int)", "int told(int)"};
    private static final String[] CONSTANTS = {
        "int NONE -6", "int UNKNOWN -1", "int OUTSIDE -2", "int STATE -3", "int FULL -4", "int NO -5",
        "long LOST -1000000000000000000"};

    private static int wrong = 0;

    private static void due(String what, Object got, Object want) {
        if (!got.equals(want)) {
            wrong++;
            System.out.println(what + ": " + got + ", due is " + want);
        }
    }

    private static String signature(Method m) {
        List<String> types = new ArrayList<>();
        for (Class<?> type : m.getParameterTypes()) {
            types.add(type.getName());
        }
        return m.getReturnType().getName() + " " + m.getName() + "(" + String.join(",", types) + ")";
    }

    private static void checkMethods() {
        TreeSet<String> open = new TreeSet<>();
        TreeSet<String> openNames = new TreeSet<>();
        List<Method> all = new ArrayList<>(List.of(SoldMatches.class.getDeclaredMethods()));
        for (Method m : all) {
            if (!Modifier.isPrivate(m.getModifiers())) {
                open.add(signature(m));
                openNames.add(m.getName());
                due("public, of the object: " + m.getName(), Modifier.toString(m.getModifiers()), "public");
            }
        }
        due("methods", open, new TreeSet<>(List.of(METHODS)));
        for (Class<?> inside : SoldMatches.class.getDeclaredClasses()) {
            all.addAll(List.of(inside.getDeclaredMethods()));
        }
        for (Method m : all) {
            if (m.getDeclaringClass() != SoldMatches.class || Modifier.isPrivate(m.getModifiers())) {
                due("hidden name " + m.getName() + " is a public one", openNames.contains(m.getName()), false);
            }
        }
    }

    private static void checkFields() throws IllegalAccessException {
        TreeSet<String> open = new TreeSet<>();
        for (Field f : SoldMatches.class.getDeclaredFields()) {
            if (!Modifier.isPrivate(f.getModifiers())) {
                due("modifiers of " + f.getName(), Modifier.toString(f.getModifiers()), "public static final");
                open.add(f.getType().getName() + " " + f.getName() + " " + f.get(null));
            }
        }
        due("constants", open, new TreeSet<>(List.of(CONSTANTS)));
    }

    private static void checkClasses() {
        due("class", Modifier.toString(SoldMatches.class.getModifiers()), "public final");
        due("package", SoldMatches.class.getPackageName(), "");
        Constructor<?>[] constructors = SoldMatches.class.getDeclaredConstructors();
        due("constructors", constructors.length, 1);
        due("constructor", constructors[0].toString(), "public SoldMatches()");
        due("classes inside, twelve in all", SoldMatches.class.getDeclaredClasses().length <= 11, true);
        for (Class<?> inside : SoldMatches.class.getDeclaredClasses()) {
            int modifiers = inside.getModifiers();
            due(inside.getName() + " static", Modifier.isStatic(modifiers), true);
            due(inside.getName() + " public", Modifier.isPublic(modifiers) || Modifier.isProtected(modifiers), false);
            due(inside.getName() + " fields", inside.getDeclaredFields().length <= 20, true);
        }
    }

    public static void main(String[] args) throws IllegalAccessException {
        checkMethods();
        checkFields();
        checkClasses();
        System.out.println(wrong == 0 ? "the face is as due" : wrong + " parts of the face are not as due");
        if (wrong != 0) {
            System.exit(1);
        }
    }
}
