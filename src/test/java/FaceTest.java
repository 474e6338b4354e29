import java.lang.reflect.Constructor;
import java.lang.reflect.Field;
import java.lang.reflect.Member;
import java.lang.reflect.Method;
import java.lang.reflect.Modifier;
import java.util.Arrays;
import java.util.List;
import java.util.TreeSet;

/** The public face is the document's, the classes inside are small, and calls make no objects. */
public final class FaceTest {
    private static final List<String> FACE = List.of(
            "int stroke(int,int)", "int point(int,int,int)", "boolean over(int,int,boolean)",
            "boolean price(int,int)", "boolean clear()", "int plan()", "int planned(int,int)",
            "int ticks(int,int)", "int touch(int,int)", "boolean start()", "int step(int)",
            "boolean jam()", "int arm(int)", "int told(int,int)", "int at(int,int,boolean)",
            "int count(int)");
    private static int wrong = 0;

    public static void main(String[] args) throws Exception {
        members();
        nested(PenArm.class);
        room();
        if (wrong != 0) {
            System.exit(1);
        }
        System.out.println("the face is as due");
    }

    private static void fault(String text) {
        wrong++;
        System.out.println(text);
    }

    private static void members() {
        int flags = PenArm.class.getModifiers();
        if (!Modifier.isPublic(flags) || !Modifier.isFinal(flags)) {
            fault("the class is not public and final");
        }
        TreeSet<String> seen = new TreeSet<>();
        TreeSet<String> privates = new TreeSet<>();
        for (Method method : PenArm.class.getDeclaredMethods()) {
            if (Modifier.isPublic(method.getModifiers())) {
                seen.add(told(method));
            } else {
                privates.add(method.getName());
                mustBePrivate(method);
            }
        }
        if (!seen.equals(new TreeSet<>(FACE))) {
            fault("public methods: " + seen);
        }
        for (String name : privates) {
            if (FACE.stream().anyMatch(line -> line.contains(" " + name + "("))) {
                fault("a private method has a public one's name: " + name);
            }
        }
        for (Field field : PenArm.class.getDeclaredFields()) {
            if (!field.getName().equals("NONE")) {
                mustBePrivate(field);
            }
        }
        Constructor<?>[] made = PenArm.class.getDeclaredConstructors();
        if (made.length != 1 || made[0].getParameterCount() != 0
                || !Modifier.isPublic(made[0].getModifiers())) {
            fault("constructors: " + Arrays.toString(made));
        }
    }

    private static String told(Method method) {
        StringBuilder types = new StringBuilder();
        for (Class<?> type : method.getParameterTypes()) {
            types.append(types.length() == 0 ? "" : ",").append(type.getSimpleName());
        }
        return method.getReturnType().getSimpleName() + " " + method.getName() + "(" + types + ")";
    }

    private static void mustBePrivate(Member member) {
        if (!Modifier.isPrivate(member.getModifiers())) {
            fault("not private: " + member);
        }
    }

    private static void nested(Class<?> outer) {
        if (outer.getDeclaredClasses().length > 11) {
            fault("too many classes");
        }
        for (Class<?> inner : outer.getDeclaredClasses()) {
            if (!Modifier.isStatic(inner.getModifiers()) || Modifier.isPublic(inner.getModifiers())) {
                fault("not static and inside: " + inner);
            }
            staysSmall(inner);
        }
        staysSmall(outer);
    }

    private static void staysSmall(Class<?> type) {
        int fields = 0;
        for (Field field : type.getDeclaredFields()) {
            if (!Modifier.isStatic(field.getModifiers())) {
                fields++;
            } else if (!Modifier.isFinal(field.getModifiers())) {
                fault("static, not final: " + field);
            }
        }
        if (fields > 20) {
            fault(type + " has " + fields + " fields");
        }
        for (Method method : type.getDeclaredMethods()) {
            if (method.getParameterCount() > 7) {
                fault("too many parameters: " + method);
            }
        }
    }

    /** Rows are made with the object and with its first plan; no call makes more. */
    private static void room() {
        PenArm arm = new PenArm();
        workOnce(arm);
        for (int i = 0; i < 20000; i++) {
            arm.plan();
        }
        com.sun.management.ThreadMXBean threads = (com.sun.management.ThreadMXBean)
                java.lang.management.ManagementFactory.getThreadMXBean();
        long self = Thread.currentThread().getId();
        threads.getThreadAllocatedBytes(self);
        long before = threads.getThreadAllocatedBytes(self);
        for (int i = 0; i < 100; i++) {
            workOnce(arm);
        }
        long bytes = threads.getThreadAllocatedBytes(self) - before;
        if (bytes > 20000) {
            fault("a hundred works made " + bytes + " bytes");
        }
    }

    private static void workOnce(PenArm arm) {
        arm.clear();
        for (int s = 0; s < 4; s++) {
            arm.stroke(s, 10);
            for (int i = 0; i < 6; i++) {
                arm.point(s, 50 * s + 7 * (i % 5), 3 * (i % 5) * (i % 5));
            }
        }
        arm.over(0, 3, true);
        arm.plan();
        arm.start();
        arm.step(200);
        arm.jam();
        arm.touch(0, 1);
        arm.start();
        arm.step(10000);
    }
}
