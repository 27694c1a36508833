import java.lang.reflect.Constructor;
import java.lang.reflect.Field;
import java.lang.reflect.Method;
import java.lang.reflect.Modifier;
import java.util.ArrayList;
import java.util.Arrays;
import java.util.List;
import java.util.TreeSet;

/** The class has the document's face, to the letter, and shows nothing else. */
public final class FaceTest {
    private static final String[] FACE = {
        "void setCurve(int,int,int) IllegalArgumentException",
        "int setSkew(int) IllegalArgumentException",
        "int setPolicy(int) IllegalArgumentException",
        "void setBuckets(int,int) IllegalArgumentException",
        "boolean setWriteBack(boolean) IllegalStateException",
        "int seekTime(int,int) IndexOutOfBoundsException",
        "int placeOf(int) IndexOutOfBoundsException",
        "int cylinderOf(int) IndexOutOfBoundsException",
        "int sectorOf(int) IndexOutOfBoundsException",
        "int startAngle(int) IndexOutOfBoundsException",
        "int accessTime(int) IndexOutOfBoundsException",
        "int moveToSpare(int) IndexOutOfBoundsException IllegalStateException UnsupportedOperationException",
        "int accessesOf(int) IndexOutOfBoundsException",
        "int clock()",
        "int arm()",
        "boolean isUpward()",
        "int idle(int) IllegalArgumentException IllegalStateException",
        "int submit(int,int,int) IllegalArgumentException IndexOutOfBoundsException IllegalStateException",
        "int appendCharacter(int) IllegalArgumentException IllegalStateException",
        "int submitText() IllegalArgumentException",
        "int faultPosition()",
        "void cancel(int) IndexOutOfBoundsException IllegalStateException",
        "int next() NoSuchElementException",
        "int serve() NoSuchElementException IllegalStateException",
        "int serveFor(int) IllegalArgumentException IllegalStateException",
        "int flush() IllegalStateException",
        "int dirtyBlocks()",
        "int pendingRequests()",
        "int state(int) IndexOutOfBoundsException",
        "int bucket(int) IndexOutOfBoundsException IllegalStateException",
        "int finish(int) IndexOutOfBoundsException IllegalStateException",
        "boolean isLate(int) IndexOutOfBoundsException IllegalStateException UnsupportedOperationException",
        "int bestFinish() UnsupportedOperationException",
        "int bestRequest(int) UnsupportedOperationException IndexOutOfBoundsException",
        "boolean canMeetDeadlines() UnsupportedOperationException",
        "int total(int) IllegalArgumentException",
        "double utilization() ArithmeticException",
        "double averageResponse() ArithmeticException",
        "float lateShare() ArithmeticException",
        "void save()",
        "int restore() IllegalStateException",
    };

    public static void main(String[] args) {
        List<String> faults = new ArrayList<>();
        Class<?> type = DiskArmSimulator.class;
        if (!Modifier.isFinal(type.getModifiers()) || !Modifier.isPublic(type.getModifiers())) {
            faults.add("the class is not public and final");
        }
        TreeSet<String> names = new TreeSet<>();
        TreeSet<String> seen = new TreeSet<>();
        for (Method method : type.getDeclaredMethods()) {
            if (!Modifier.isPrivate(method.getModifiers())) {
                seen.add(signature(method));
                names.add(method.getName());
            }
        }
        TreeSet<String> due = new TreeSet<>(Arrays.asList(FACE));
        for (String one : due) {
            if (!seen.contains(one)) {
                faults.add("missing: " + one);
            }
        }
        for (String one : seen) {
            if (!due.contains(one)) {
                faults.add("too much: " + one);
            }
        }
        checkRest(type, names, faults);
        for (String fault : faults) {
            System.out.println(fault);
        }
        System.exit(faults.isEmpty() ? 0 : 1);
    }

    private static void checkRest(Class<?> type, TreeSet<String> names, List<String> faults) {
        Constructor<?>[] constructors = type.getDeclaredConstructors();
        if (constructors.length != 1 || !Modifier.isPublic(constructors[0].getModifiers())
                || constructors[0].getParameterCount() != 0) {
            faults.add("the constructor is not the document's");
        }
        for (Field field : type.getDeclaredFields()) {
            if (!Modifier.isPrivate(field.getModifiers())) {
                faults.add("a field is visible: " + field.getName());
            }
            if (Modifier.isStatic(field.getModifiers()) && !Modifier.isFinal(field.getModifiers())) {
                faults.add("a static field is not final: " + field.getName());
            }
        }
        for (Method method : type.getDeclaredMethods()) {
            if (Modifier.isPrivate(method.getModifiers()) && names.contains(method.getName())) {
                faults.add("a private method bears a public name: " + method.getName());
            }
        }
        for (Class<?> inner : type.getDeclaredClasses()) {
            if (Modifier.isPublic(inner.getModifiers()) || !Modifier.isStatic(inner.getModifiers())) {
                faults.add("a class inside is public or not static: " + inner.getName());
            }
        }
    }

    private static String signature(Method method) {
        StringBuilder text = new StringBuilder();
        text.append(method.getReturnType().getSimpleName()).append(' ').append(method.getName()).append('(');
        String between = "";
        for (Class<?> parameter : method.getParameterTypes()) {
            text.append(between).append(parameter.getSimpleName());
            between = ",";
        }
        text.append(')');
        for (Class<?> exception : method.getExceptionTypes()) {
            text.append(' ').append(exception.getSimpleName());
        }
        return text.toString();
    }
}
