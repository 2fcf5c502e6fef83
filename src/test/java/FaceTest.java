import java.lang.reflect.Constructor;
import java.lang.reflect.Field;
import java.lang.reflect.Method;
import java.lang.reflect.Modifier;
import java.util.Arrays;
import java.util.Set;
import java.util.TreeSet;

/** The class shows the document's face and no more; no arguments at all make a call throw. */
public final class FaceTest {
    private static final Check CHECK = new Check("FaceTest");
    private static final String[] FACE = {"int write(int)", "int wipe()", "int fault()", "int lay()", "int law(int,int)",
        "int person(int,int)", "int stone(int,int)", "int mark(int,int)", "int world(int)", "int deed(int)",
        "int carve(int,int,int,boolean)", "int chisel(int,int)", "int bell()", "int undo()", "int known(int,int)",
        "int hands(int)", "long belief(int,int)", "int least(int)", "int soonest(int)", "int lie(int,int,int)",
        "int safe(int)", "int clash()", "int stand(int)", "int was(int)", "int missed()", "int sale(int,int)",
        "int worth()", "int two(int,int)", "int year(int,int,int)", "int keep()", "int back()", "int count(int)"};
    private static final int[] EDGES = {Integer.MIN_VALUE, -65536, -2, -1, 0, 1, 2, 5, 8, 31, 32, 33, 63, 64, 255, 256,
        65536, Integer.MAX_VALUE};

    public static void main(String[] args) throws ReflectiveOperationException {
        constants();
        methods();
        nothingElse();
        anyArguments();
        CHECK.end();
    }

    private static void constants() {
        CHECK.due("BAD", CarvedWeeks.BAD, -1);
        CHECK.due("NO", CarvedWeeks.NO, -2);
        CHECK.due("FULL", CarvedWeeks.FULL, -3);
        CHECK.due("NONE", CarvedWeeks.NONE, -4);
    }

    private static String faceOf(Method method) {
        StringBuilder face = new StringBuilder(method.getReturnType() + " " + method.getName() + "(");
        for (Class<?> type : method.getParameterTypes()) {
            face.append(face.charAt(face.length() - 1) == '(' ? "" : ",").append(type);
        }
        return face.append(")").toString();
    }

    private static void methods() {
        Set<String> shown = new TreeSet<>();
        for (Method method : CarvedWeeks.class.getDeclaredMethods()) {
            if (!Modifier.isPrivate(method.getModifiers())) {
                shown.add(faceOf(method));
                CHECK.holds(method + " is public and of the object",
                        Modifier.isPublic(method.getModifiers()) && !Modifier.isStatic(method.getModifiers()));
            }
        }
        CHECK.holds("the methods are those of the document: " + shown, shown.equals(new TreeSet<>(Set.of(FACE))));
    }

    private static void nothingElse() {
        for (Method method : CarvedWeeks.class.getDeclaredMethods()) {
            CHECK.holds(method + " bears a name of its own", !Modifier.isPrivate(method.getModifiers())
                    || Arrays.stream(FACE).noneMatch(face -> face.contains(" " + method.getName() + "(")));
        }
        CHECK.due("the class is public and final", CarvedWeeks.class.getModifiers(), Modifier.PUBLIC | Modifier.FINAL);
        Set<String> constants = Set.of("BAD", "NO", "FULL", "NONE");
        for (Field field : CarvedWeeks.class.getDeclaredFields()) {
            CHECK.holds(field + " is private or of the face",
                    Modifier.isPrivate(field.getModifiers()) != constants.contains(field.getName()));
        }
        Constructor<?>[] makers = CarvedWeeks.class.getDeclaredConstructors();
        CHECK.due("one constructor", makers.length, 1);
        CHECK.due("it is public", makers[0].getModifiers(), Modifier.PUBLIC);
    }

    private static void anyArguments() throws ReflectiveOperationException {
        for (int round = 0; round < 3; round++) {
            for (Method method : CarvedWeeks.class.getDeclaredMethods()) {
                if (Modifier.isPublic(method.getModifiers())) {
                    CarvedWeeks town = new CarvedWeeks();
                    if (round > 0) {
                        town.carve(0, 0, 0, true);
                        town.carve(1, 1, 0, round == 1);
                        Check.type(town, "f8;p1,1;p1,1;s1,1,1;b1,6,99;b0,6,99;");
                    }
                    callAll(town, method, new Object[method.getParameterCount()], 0);
                }
            }
        }
    }

    private static void callAll(CarvedWeeks town, Method method, Object[] given, int at)
            throws ReflectiveOperationException {
        if (at == given.length) {
            long answer = ((Number) method.invoke(town, given)).longValue();
            CHECK.holds(method.getName() + " answers -4 or more", answer >= CarvedWeeks.NONE);
            return;
        }
        if (method.getParameterTypes()[at] == boolean.class) {
            given[at] = true;
            callAll(town, method, given, at + 1);
            return;
        }
        for (int edge : EDGES) {
            given[at] = edge;
            callAll(town, method, given, at + 1);
        }
    }
}
