import java.lang.reflect.Constructor;
import java.lang.reflect.Field;
import java.lang.reflect.Method;
import java.lang.reflect.Modifier;
import java.util.ArrayList;
import java.util.List;
import java.util.TreeSet;

/** Tests that the class has the document's face and nothing else that can be seen from outside. */
public final class FaceTest {
    private static final String[] FACE = {
        "int setTile(int,int,int)", "int turnTile(int,int,int)", "int pin(int,int)", "int unpin(int,int)",
        "int shiftRow(int,int)", "int shiftColumn(int,int)", "int placeKey(char,int,int)",
        "int addLock(int,int,char)", "char removeLock(int,int)", "int addWalker(int,int)",
        "int walk(int,int,int)", "int openings(int,int)", "boolean isPinned(int,int)",
        "boolean canShiftRow(int)", "boolean canShiftColumn(int)", "boolean hasLock(int,int)",
        "char lockAt(int,int)", "int keysAt(int,int)", "boolean isConnected(int,int,int)",
        "int regionCount()", "int regionCountByMerging()", "int keyRow(char)", "int keyColumn(char)",
        "int carrierOf(char)", "int walkerCount()", "int walkerRow(int)", "int walkerColumn(int)",
        "int keysOf(int)", "int pathLength(int,int,int)", "int pathLengthByRounds(int,int,int)",
        "int firstStep(int,int,int)", "int reachableCells(int)", "char nearestKey(int)",
        "int helpfulShifts(int,int,int)", "int shiftCount()", "long walkedTotal()", "double meanOpenings()",
        "float reachableShare(int)", "boolean isConsistent()", "int append(char)", "int run()",
        "int errorPosition()", "int failedCommand()", "int writeRow(int)", "char outputAt(int)", "int undo()",
        "void save()", "void restore()",
    };
    private static int wrong = 0;

    private FaceTest() {
    }

    public static void main(String[] args) {
        Class<?> type = BrambleShift.class;
        check(Modifier.isPublic(type.getModifiers()) && Modifier.isFinal(type.getModifiers()), "public and final");
        check(type.getPackageName().isEmpty(), "no package");
        Constructor<?>[] constructors = type.getDeclaredConstructors();
        check(constructors.length == 1 && constructors[0].getParameterCount() == 0
                && Modifier.isPublic(constructors[0].getModifiers()), "one public constructor");
        checkMethods(type);
        for (Field field : type.getDeclaredFields()) {
            check(Modifier.isPrivate(field.getModifiers()), "private field " + field.getName());
            check(!Modifier.isStatic(field.getModifiers()) || Modifier.isFinal(field.getModifiers()),
                    "final static field " + field.getName());
        }
        for (Class<?> inner : type.getDeclaredClasses()) {
            check(Modifier.isStatic(inner.getModifiers()) && !Modifier.isPublic(inner.getModifiers())
                    && !Modifier.isProtected(inner.getModifiers()), "static and hidden class " + inner.getName());
        }
        System.out.println(wrong == 0 ? "the face is as due" : wrong + " faults");
        System.exit(wrong == 0 ? 0 : 1);
    }

    private static void checkMethods(Class<?> type) {
        TreeSet<String> due = new TreeSet<>(List.of(FACE));
        TreeSet<String> seen = new TreeSet<>();
        TreeSet<String> names = new TreeSet<>();
        List<String> hidden = new ArrayList<>();
        for (Method method : type.getDeclaredMethods()) {
            if (Modifier.isPublic(method.getModifiers())) {
                check(!Modifier.isStatic(method.getModifiers()), "not static: " + method.getName());
                seen.add(signature(method));
                names.add(method.getName());
            } else {
                check(Modifier.isPrivate(method.getModifiers()), "public or private: " + method.getName());
                hidden.add(method.getName());
            }
        }
        for (Class<?> inner : type.getDeclaredClasses()) {
            for (Method method : inner.getDeclaredMethods()) {
                hidden.add(method.getName());
            }
        }
        check(seen.equals(due), "the public methods are " + seen);
        for (String name : hidden) {
            check(!names.contains(name), "no hidden method has the name of a public one: " + name);
        }
    }

    private static String signature(Method method) {
        List<String> types = new ArrayList<>();
        for (Class<?> parameter : method.getParameterTypes()) {
            types.add(parameter.getSimpleName());
        }
        return method.getReturnType().getSimpleName() + " " + method.getName() + "(" + String.join(",", types) + ")";
    }

    private static void check(boolean right, String message) {
        if (!right) {
            wrong++;
            System.out.println("not so: " + message);
        }
    }
}
