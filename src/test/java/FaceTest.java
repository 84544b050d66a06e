import java.lang.reflect.Constructor;
import java.lang.reflect.Field;
import java.lang.reflect.Method;
import java.lang.reflect.Modifier;
import java.util.ArrayList;
import java.util.HashSet;
import java.util.List;
import java.util.Set;
import java.util.TreeSet;

/** The public face: the constants, the constructor and every method, and nothing else. */
public final class FaceTest {
    private static final String I = "java.lang.IndexOutOfBoundsException";
    private static final String A = "java.lang.IllegalArgumentException";
    private static final String S = "java.lang.IllegalStateException";

    private static final String[] FACE = {
        "void coast(int,int,int,int,int) throws " + I + "," + A + "," + S,
        "int pilot(int,int) throws " + A + "," + S,
        "int report(int,int,int) throws " + I + "," + A + "," + S,
        "int chart(int,int) throws " + A + "," + S,
        "int hand(int,int) throws " + I + "," + A,
        "void reads(int,int,int) throws " + I + "," + A,
        "int copy(int,int,int,int) throws " + I + "," + A + "," + S,
        "int paste(int,int,int,int) throws " + I + "," + A + "," + S,
        "int island(int,int,int) throws " + I + "," + A + "," + S,
        "void exchange(int,int,int) throws " + I,
        "int shrink(int,int,int,boolean) throws " + I + "," + A + "," + S,
        "int lose(int,int,int) throws " + I + "," + A,
        "boolean paint(int,int) throws " + I,
        "int told(int,boolean) throws " + I,
        "int at(int,int,int) throws " + I + "," + A,
        "int chain(int,int,int) throws " + I,
        "int of(int,int) throws " + I + "," + A,
        "int ofIsland(int,int) throws " + I + "," + A,
        "int fit(int,int,int) throws " + I + "," + A,
        "int shared(int,int,int) throws " + I,
        "int kin(int,int) throws " + I,
        "int date(int,int) throws " + I,
    };

    public static void main(String[] args) {
        constants();
        constructor();
        methods();
        fields();
        inside();
        Check.end("FaceTest");
    }

    private static void constants() {
        Check.same("NONE", PortolanHall.NONE, -1);
        Check.same("NOWHERE", PortolanHall.NOWHERE, 100000);
        Check.same("PRICKED", PortolanHall.PRICKED, 0);
        Check.same("GRID", PortolanHall.GRID, 1);
        Check.same("EYE", PortolanHall.EYE, 2);
    }

    private static void constructor() {
        Constructor<?>[] all = PortolanHall.class.getDeclaredConstructors();
        Check.same("constructors", all.length, 1);
        Check.same("arguments of the constructor", all[0].getParameterCount(), 0);
        Check.yes("the constructor is public", Modifier.isPublic(all[0].getModifiers()));
        Check.yes("the class is public and final",
            Modifier.isPublic(PortolanHall.class.getModifiers())
                && Modifier.isFinal(PortolanHall.class.getModifiers()));
    }

    private static void methods() {
        Set<String> due = new TreeSet<>(List.of(FACE));
        Set<String> got = new TreeSet<>();
        Set<String> visible = new HashSet<>();
        for (Method method : PortolanHall.class.getDeclaredMethods()) {
            if (!Modifier.isPrivate(method.getModifiers())) {
                got.add(told(method));
                visible.add(method.getName());
            }
        }
        for (String method : due) {
            Check.yes("the face has " + method, got.contains(method));
        }
        for (String method : got) {
            Check.yes("the document has " + method, due.contains(method));
        }
        for (Method method : PortolanHall.class.getDeclaredMethods()) {
            if (Modifier.isPrivate(method.getModifiers())) {
                Check.yes(method.getName() + " bears no name of the face", !visible.contains(method.getName()));
            }
        }
    }

    private static String told(Method method) {
        List<String> takes = new ArrayList<>();
        for (Class<?> type : method.getParameterTypes()) {
            takes.add(type.getName());
        }
        List<String> gives = new ArrayList<>();
        for (Class<?> type : method.getExceptionTypes()) {
            gives.add(type.getName());
        }
        return method.getReturnType().getName() + " " + method.getName()
            + "(" + String.join(",", takes) + ") throws " + String.join(",", gives);
    }

    private static void fields() {
        int visible = 0;
        for (Field field : PortolanHall.class.getDeclaredFields()) {
            if (!Modifier.isPrivate(field.getModifiers())) {
                visible++;
            }
            if (Modifier.isStatic(field.getModifiers())) {
                Check.yes(field.getName() + " is final", Modifier.isFinal(field.getModifiers()));
            }
        }
        Check.same("visible fields", visible, 5);
    }

    private static void inside() {
        Class<?>[] all = PortolanHall.class.getDeclaredClasses();
        Check.yes("at most twelve classes", all.length < 12);
        for (Class<?> one : all) {
            Check.yes(one.getName() + " is static", Modifier.isStatic(one.getModifiers()));
            Check.yes(one.getName() + " is not public", !Modifier.isPublic(one.getModifiers()));
        }
    }
}
