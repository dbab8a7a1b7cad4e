import java.lang.reflect.Constructor;
import java.lang.reflect.Field;
import java.lang.reflect.Method;
import java.lang.reflect.Modifier;
import java.util.Arrays;
import java.util.TreeSet;

/** The class has the document's face and nothing else that can be seen from outside. */
public final class FaceTest {
    private static final String[] MEMBERS = {
        "public static final int UNKNOWN", "public static final int BAD_VALUE", "public static final int FULL",
        "public static final int NOT_POSSIBLE", "public static final int NONE", "public static final int DITTO",
        "public DittoLog()",
        "public int addRow(int,int,int,int)", "public int addRows()", "public int removeRow()",
        "public int correct(int,int,int)", "public int takeBack(int,int)", "public int claim(int,int)",
        "public int set(int,int)", "public int type(char)", "public int clearText()", "public int undo()",
        "public int keep()", "public int restore()", "public int cell(int,int,int)", "public int entry(int,int,int)",
        "public int isWritten(int)", "public int column(int,int)", "public int watch(int,int)",
        "public int run(int,int)", "public double north(int,int)", "public double east(int,int)",
        "public int squareBits(int,int)", "public int wouldChange(int,int,int)", "public int count(int)",
    };

    public static void main(String[] args) {
        Check check = new Check("face");
        TreeSet<String> seen = new TreeSet<>();
        TreeSet<String> publicNames = new TreeSet<>();
        TreeSet<String> privateNames = new TreeSet<>();
        for (Field field : DittoLog.class.getDeclaredFields()) {
            if (!Modifier.isPrivate(field.getModifiers())) {
                seen.add(field.toString().replace("DittoLog.", ""));
            }
        }
        for (Constructor<?> constructor : DittoLog.class.getDeclaredConstructors()) {
            seen.add(constructor.toString());
        }
        for (Method method : DittoLog.class.getDeclaredMethods()) {
            if (Modifier.isPrivate(method.getModifiers())) {
                privateNames.add(method.getName());
            } else {
                seen.add(method.toString().replace("DittoLog.", ""));
                publicNames.add(method.getName());
            }
        }
        for (Class<?> inside : DittoLog.class.getDeclaredClasses()) {
            check.isTrue(inside + " is static", Modifier.isStatic(inside.getModifiers()));
            check.isTrue(inside + " is not public", !Modifier.isPublic(inside.getModifiers()));
            for (Method method : inside.getDeclaredMethods()) {
                privateNames.add(method.getName());
            }
        }
        TreeSet<String> due = new TreeSet<>(Arrays.asList(MEMBERS));
        check.isTrue("the face is " + seen + ", due is " + due, seen.equals(due));
        privateNames.retainAll(publicNames);
        check.isTrue("private methods with the name of a public one: " + privateNames, privateNames.isEmpty());
        check.isTrue("the class is final", Modifier.isFinal(DittoLog.class.getModifiers()));
        check.same("UNKNOWN", DittoLog.UNKNOWN, -1);
        check.same("BAD_VALUE", DittoLog.BAD_VALUE, -2);
        check.same("FULL", DittoLog.FULL, -3);
        check.same("NOT_POSSIBLE", DittoLog.NOT_POSSIBLE, -4);
        check.same("NONE", DittoLog.NONE, -5);
        check.same("DITTO", DittoLog.DITTO, -6);
        check.end();
    }
}
