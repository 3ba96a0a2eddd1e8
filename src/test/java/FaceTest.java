import java.lang.reflect.Constructor;
import java.lang.reflect.Field;
import java.lang.reflect.Method;
import java.lang.reflect.Modifier;
import java.util.Arrays;
import java.util.Set;
import java.util.TreeSet;

/** The class shows the face of the document, and nothing else. */
public final class FaceTest {
    private static final String[] FACE = {
        "int clear()", "int append(char)", "int rink(int,int)", "int wood(int,int)", "int begin(int,int)",
        "int bowl(int,int,int,int,boolean)", "int close(int)", "int sweep(int)", "int rain(int)", "int sun(int)",
        "int brew(int)", "int tea(int)", "int hour(int)", "int script()", "int fault()", "int reason(int,boolean)",
        "int rinkOf(int,int)", "int woodOf(int,int)", "int clubOf(int,int)", "int rinkAt(int)", "int nearest(int,int)",
        "int shots(int,boolean)", "int would(int,int,int,int,boolean)", "int bestStrength(int,int,int,boolean)",
        "int wetIn(int,int)", "int castsIn(int,int)", "int dryIn(int)", "int leader()", "int describe(int)",
        "int written(int)", "float meanWet()", "double winShare()", "int account(int)", "int undo()", "int save()",
        "int restore()",
    };

    private static String told(Method method) {
        StringBuilder text = new StringBuilder();
        text.append(method.getReturnType().getName()).append(' ').append(method.getName()).append('(');
        String separator = "";
        for (Class<?> type : method.getParameterTypes()) {
            text.append(separator).append(type.getName());
            separator = ",";
        }
        return text.append(')').toString();
    }

    public static void main(String[] args) {
        Check check = new Check();
        Set<String> shown = new TreeSet<>();
        Set<String> names = new TreeSet<>();
        for (Method method : BowlsGreen.class.getDeclaredMethods()) {
            if (!Modifier.isPrivate(method.getModifiers())) {
                shown.add(told(method));
                names.add(method.getName());
                check.due(told(method) + " is public and no more", method.getModifiers(), Modifier.PUBLIC);
            }
        }
        check.dueText("the methods", shown.toString(), new TreeSet<>(Arrays.asList(FACE)).toString());
        for (Method method : BowlsGreen.class.getDeclaredMethods()) {
            boolean isTwice = Modifier.isPrivate(method.getModifiers()) && names.contains(method.getName());
            check.dueText(method + " is private with a public name", "" + isTwice, "false");
        }
        Set<String> fields = new TreeSet<>();
        for (Field field : BowlsGreen.class.getDeclaredFields()) {
            if (!Modifier.isPrivate(field.getModifiers())) {
                fields.add(field.getName());
            }
        }
        check.dueText("the fields", fields.toString(), "[BAD, NONE, NOTHING, REFUSED]");
        Constructor<?>[] constructors = BowlsGreen.class.getDeclaredConstructors();
        check.due("constructors", constructors.length, 1);
        check.due("the constructor", constructors[0].getModifiers(), Modifier.PUBLIC);
        check.due("parameters", constructors[0].getParameterCount(), 0);
        check.due("the class", BowlsGreen.class.getModifiers(), Modifier.PUBLIC | Modifier.FINAL);
        check.due("NONE", BowlsGreen.NONE, -1);
        check.due("BAD", BowlsGreen.BAD, -2);
        check.due("REFUSED", BowlsGreen.REFUSED, -3);
        check.due("NOTHING", BowlsGreen.NOTHING, -4);
        check.end();
    }
}
