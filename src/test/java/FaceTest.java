import java.lang.reflect.Constructor;
import java.lang.reflect.Field;
import java.lang.reflect.Method;
import java.lang.reflect.Modifier;
import java.util.Set;
import java.util.TreeSet;

/** The class has the document's public face, and no other member that can be seen. */
public final class FaceTest {
    private static final String[] FACE = {
        "int image(int,int)", "int paint(int,int,int,int,int)", "int gradient(int,int,boolean)",
        "int noise(int,int)", "int pixel(int,int)", "int colors()", "int color(int,int)",
        "int add(int,boolean)", "int remove(int)", "int lock(int,boolean)", "int swap(int,int)",
        "int setMetric(int)", "int entry(int,int)", "int nearest(int)", "int type(int)", "int clearText()",
        "int fault()", "int load()", "int build(int,int)", "int refine(int)", "int merge(int)", "int sort(int)",
        "int map(int,int)", "int index(int,int)", "int error()", "int worst()", "int meanError()", "int runs()",
        "int packed(int)", "int bestError()", "int loss(int)", "int cheapest()", "int gain(int)",
        "int bestAddition()", "int undo()", "int count(int)", "long digest()",
    };

    private static int wrong = 0;

    private static void due(String what, Object got, Object want) {
        if (!got.equals(want)) {
            wrong++;
            System.out.println(what + ": got " + got + ", due is " + want);
        }
    }

    private static String signature(Method method) {
        StringBuilder text = new StringBuilder(method.getReturnType() + " " + method.getName() + "(");
        String comma = "";
        for (Class<?> type : method.getParameterTypes()) {
            text.append(comma).append(type);
            comma = ",";
        }
        return text.append(")").toString();
    }

    private static void checkMethods() {
        Set<String> seen = new TreeSet<>();
        Set<String> publicNames = new TreeSet<>();
        for (Method method : PaletteBuilder.class.getDeclaredMethods()) {
            if (!Modifier.isPrivate(method.getModifiers())) {
                due(signature(method) + " modifiers", Modifier.toString(method.getModifiers()), "public");
                seen.add(signature(method));
                publicNames.add(method.getName());
            }
        }
        due("methods", seen, new TreeSet<>(Set.of(FACE)));
        for (Class<?> type : allClasses()) {
            for (Method method : type.getDeclaredMethods()) {
                if (type != PaletteBuilder.class || Modifier.isPrivate(method.getModifiers())) {
                    due(type + "." + method.getName() + " bears a public name",
                            publicNames.contains(method.getName()), false);
                }
            }
        }
    }

    private static Set<Class<?>> allClasses() {
        Set<Class<?>> all = new java.util.LinkedHashSet<>();
        all.add(PaletteBuilder.class);
        all.addAll(java.util.List.of(PaletteBuilder.class.getDeclaredClasses()));
        return all;
    }

    private static void checkFields() throws IllegalAccessException {
        Set<String> seen = new TreeSet<>();
        for (Field field : PaletteBuilder.class.getDeclaredFields()) {
            if (!Modifier.isPrivate(field.getModifiers())) {
                due(field + " modifiers", Modifier.toString(field.getModifiers()), "public static final");
                seen.add(field.getType() + " " + field.getName() + " = " + field.get(null));
            }
        }
        due("constants", seen, Set.of("int BAD = -2", "int STATE = -3", "int FULL = -4", "int NONE = -1"));
        for (Class<?> type : allClasses()) {
            for (Field field : type.getDeclaredFields()) {
                if (Modifier.isStatic(field.getModifiers())) {
                    due(field + " is final", Modifier.isFinal(field.getModifiers()), true);
                }
            }
        }
    }

    public static void main(String[] args) throws IllegalAccessException {
        due("class", Modifier.toString(PaletteBuilder.class.getModifiers()), "public final");
        Constructor<?>[] constructors = PaletteBuilder.class.getDeclaredConstructors();
        due("constructors", constructors.length, 1);
        due("constructor", constructors[0].toString(), "public PaletteBuilder()");
        checkMethods();
        checkFields();
        System.out.println(wrong == 0 ? "the face is as due" : wrong + " answers are not as due");
        if (wrong != 0) {
            System.exit(1);
        }
    }
}
