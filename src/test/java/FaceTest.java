import java.lang.reflect.Constructor;
import java.lang.reflect.Field;
import java.lang.reflect.Method;
import java.lang.reflect.Modifier;
import java.util.Arrays;
import java.util.Set;
import java.util.TreeSet;

/** The class has the document's face and no other member that can be seen. */
public final class FaceTest {
    private static final Due DUE = new Due();

    private static final Set<String> METHODS = Set.of(
            "boolean part[int, int, int]", "boolean water[int, int]", "boolean heat[int, int]",
            "boolean rate[int, int, int]", "boolean yields[int, int, int]",
            "boolean bounds[int, int, int]", "boolean rain[int]", "boolean loss[int]",
            "boolean fan[int, int, int]", "boolean limit[int]", "int run[int]",
            "long left[int, int]", "long wet[int]", "long warmth[int]", "int air[]", "int turn[]",
            "long gone[int]", "long balance[int]", "long batch[]");

    public static void main(String[] args) {
        DUE.is("NONE", HeapSteps.NONE, -1);
        DUE.is("modifiers of the class", HeapSteps.class.getModifiers(),
                Modifier.PUBLIC | Modifier.FINAL);
        methods();
        constructors();
        fields();
        classesInside();
        DUE.end();
    }

    private static void methods() {
        Set<String> seen = new TreeSet<>();
        Set<String> publicNames = new TreeSet<>();
        Set<String> privateNames = new TreeSet<>();
        for (Method method : HeapSteps.class.getDeclaredMethods()) {
            if (Modifier.isPrivate(method.getModifiers())) {
                privateNames.add(method.getName());
                continue;
            }
            publicNames.add(method.getName());
            seen.add(method.getReturnType() + " " + method.getName()
                    + Arrays.toString(method.getParameterTypes()));
            DUE.is("modifiers of " + method.getName(), method.getModifiers(), Modifier.PUBLIC);
        }
        DUE.yes("the methods are the document's: " + seen, seen.equals(METHODS));
        privateNames.retainAll(publicNames);
        DUE.yes("no private method with a public one's name: " + privateNames,
                privateNames.isEmpty());
    }

    private static void constructors() {
        Constructor<?>[] all = HeapSteps.class.getDeclaredConstructors();
        DUE.is("constructors", all.length, 1);
        DUE.yes("the constructor is public", Modifier.isPublic(all[0].getModifiers()));
        DUE.yes("the constructor takes an int",
                Arrays.equals(all[0].getParameterTypes(), new Class<?>[] {int.class}));
    }

    private static void fields() {
        for (Field field : HeapSteps.class.getDeclaredFields()) {
            int modifiers = field.getModifiers();
            if (field.getName().equals("NONE")) {
                DUE.is("modifiers of NONE", modifiers,
                        Modifier.PUBLIC | Modifier.STATIC | Modifier.FINAL);
                continue;
            }
            DUE.yes(field.getName() + " is private", Modifier.isPrivate(modifiers));
            DUE.yes(field.getName() + " is final if static",
                    !Modifier.isStatic(modifiers) || Modifier.isFinal(modifiers));
        }
    }

    private static void classesInside() {
        for (Class<?> inside : HeapSteps.class.getDeclaredClasses()) {
            int modifiers = inside.getModifiers();
            DUE.no(inside + " is seen outside",
                    Modifier.isPublic(modifiers) || Modifier.isProtected(modifiers));
            DUE.yes(inside + " is static", Modifier.isStatic(modifiers));
        }
    }
}
