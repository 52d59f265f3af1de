import java.lang.reflect.Constructor;
import java.lang.reflect.Field;
import java.lang.reflect.Method;
import java.lang.reflect.Modifier;
import java.util.Arrays;
import java.util.HashSet;
import java.util.Set;
import java.util.TreeSet;

/** The public face: every constant, the constructor and every method, and nothing beside them. */
public final class FaceTest {
    private static final String[] CONSTANTS = {
        "INVALID_ARGUMENT=-101", "NOT_POSSIBLE=-102", "CAPACITY_EXCEEDED=-103", "NOT_FOUND=-104",
        "NO_FAULT=-1", "AND=0", "OR=1", "XOR=2", "NAND=3", "NOR=4", "NOT=5", "INPUT=6",
        "ALL_WORDS=0", "TWO_RAIL=1", "CONSTANT_WEIGHT=2", "BERGER=3",
        "NO_ERROR=0", "RISING=1", "FALLING=2", "MIXED=3",
        "BAD_STATEMENT=1", "BAD_NUMBER=2", "OUT_OF_RANGE=3", "TOO_MANY=4"
    };
    /** Each method takes so many ints and answers an int. */
    private static final String[] METHODS = {
        "append/1", "clearText/0", "firstError/0", "errorReason/0", "configure/0", "addGate/3",
        "addTwoRailCell/4", "addComparator/2", "removeGate/0", "addOutput/1", "clearOutputs/0",
        "setNormal/2", "setCode/2", "undo/0", "nodeCount/0", "typeOf/1", "operandOf/2",
        "outputNode/1", "isNormal/1", "outputWord/2", "isCodeWord/1", "errorKind/2", "firstTest/1",
        "firstUnsafe/1", "testableFaults/0", "secureFaults/0", "isCodeDisjoint/0", "isUnordered/0",
        "greedyTest/1"
    };
    private static final Check CHECK = new Check();

    public static void main(String[] args) throws IllegalAccessException {
        Class<?> face = SelfCheckingCircuit.class;
        CHECK.due("public and final", face.getModifiers(), Modifier.PUBLIC | Modifier.FINAL);
        constants(face);
        methods(face);
        constructors(face);
        classesInside(face);
        CHECK.end();
    }

    private static void same(String what, Set<String> got, String[] want) {
        Set<String> due = new TreeSet<>(Arrays.asList(want));
        Set<String> missing = new TreeSet<>(due);
        missing.removeAll(got);
        Set<String> more = new TreeSet<>(got);
        more.removeAll(due);
        CHECK.due(what + " that are missing: " + missing, missing.size(), 0);
        CHECK.due(what + " that are too many: " + more, more.size(), 0);
    }

    private static void constants(Class<?> face) throws IllegalAccessException {
        Set<String> got = new TreeSet<>();
        for (Field field : face.getDeclaredFields()) {
            if (!Modifier.isPrivate(field.getModifiers())) {
                CHECK.due(field + " is a constant", field.getModifiers(),
                        Modifier.PUBLIC | Modifier.STATIC | Modifier.FINAL);
                got.add(field.getName() + "=" + field.getInt(null));
            }
        }
        same("constants", got, CONSTANTS);
    }

    private static void methods(Class<?> face) {
        Set<String> got = new TreeSet<>();
        for (Method method : face.getDeclaredMethods()) {
            if (!Modifier.isPrivate(method.getModifiers())) {
                CHECK.due(method + " is public", method.getModifiers(), Modifier.PUBLIC);
                CHECK.due(method + " answers an int", method.getReturnType() == int.class ? 1 : 0, 1);
                for (Class<?> type : method.getParameterTypes()) {
                    CHECK.due(method + " takes ints", type == int.class ? 1 : 0, 1);
                }
                got.add(method.getName() + "/" + method.getParameterCount());
            }
        }
        same("methods", got, METHODS);
        hiddenNames(face, got);
    }

    /** No private method bears the name of a public one, in the class or in those inside it. */
    private static void hiddenNames(Class<?> face, Set<String> shown) {
        Set<String> names = new HashSet<>();
        for (String method : shown) {
            names.add(method.substring(0, method.indexOf('/')));
        }
        for (Method method : face.getDeclaredMethods()) {
            if (Modifier.isPrivate(method.getModifiers())) {
                CHECK.due(method + " has a name of its own", names.contains(method.getName()) ? 1 : 0, 0);
            }
        }
        for (Class<?> inside : face.getDeclaredClasses()) {
            for (Method method : inside.getDeclaredMethods()) {
                CHECK.due(method + " has a name of its own", names.contains(method.getName()) ? 1 : 0, 0);
            }
        }
    }

    private static void constructors(Class<?> face) {
        Constructor<?>[] all = face.getDeclaredConstructors();
        CHECK.due("constructors", all.length, 1);
        CHECK.due("public constructor", all[0].getModifiers(), Modifier.PUBLIC);
        CHECK.due("parameters of the constructor", all[0].getParameterCount(), 0);
    }

    private static void classesInside(Class<?> face) {
        for (Class<?> inside : face.getDeclaredClasses()) {
            int modifiers = inside.getModifiers();
            CHECK.due(inside + " is static", Modifier.isStatic(modifiers) ? 1 : 0, 1);
            CHECK.due(inside + " is not public", Modifier.isPublic(modifiers) ? 1 : 0, 0);
            CHECK.due(inside + " is not protected", Modifier.isProtected(modifiers) ? 1 : 0, 0);
        }
    }
}
