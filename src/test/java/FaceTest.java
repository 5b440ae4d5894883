import java.lang.reflect.Constructor;
import java.lang.reflect.Field;
import java.lang.reflect.Method;
import java.lang.reflect.Modifier;
import java.util.Set;
import java.util.TreeSet;

/** The public face is the document's, and nothing besides it can be seen. */
final class FaceTest {
    private static final Set<String> METHODS = Set.of(
        "put(int,int,int)", "lock(int,boolean)", "show(int,int)", "copyBank(int,int)", "set(int)",
        "begin(int)", "run(int)", "type(char)", "clearText()", "assemble(int,int)", "undo()", "keep()",
        "restore()", "cell(int,int)", "address(int,int)", "bank(int,int)", "window(int)", "frame(int,int)",
        "latest(int,int)", "next(int)", "ifRun(int,int)", "backIn()", "count(int)");
    private static final Set<String> CONSTANTS = Set.of("UNKNOWN", "BAD_VALUE", "FULL", "NOT_POSSIBLE", "NONE");

    public static void main(String[] args) {
        Check check = new Check();
        check.promise("The public face");
        constants(check);
        methods(check);
        check.close();
    }

    private static void constants(Check check) {
        check.due("UNKNOWN", FarBanks.UNKNOWN, -1);
        check.due("BAD_VALUE", FarBanks.BAD_VALUE, -2);
        check.due("FULL", FarBanks.FULL, -3);
        check.due("NOT_POSSIBLE", FarBanks.NOT_POSSIBLE, -4);
        check.due("NONE", FarBanks.NONE, -5);
        Set<String> seen = new TreeSet<>();
        for (Field field : FarBanks.class.getDeclaredFields()) {
            if (!Modifier.isPrivate(field.getModifiers())) {
                seen.add(field.getName());
            }
        }
        check.holds("fields that can be seen: " + seen, seen.equals(CONSTANTS));
    }

    private static void methods(Check check) {
        Set<String> seen = new TreeSet<>();
        Set<String> hidden = new TreeSet<>();
        for (Method method : FarBanks.class.getDeclaredMethods()) {
            if (Modifier.isPublic(method.getModifiers()) && method.getReturnType() == int.class) {
                seen.add(signature(method));
            } else {
                hidden.add(method.getName());
                check.holds(method + " is not private", Modifier.isPrivate(method.getModifiers()));
            }
        }
        check.holds("methods that can be seen: " + seen, seen.equals(METHODS));
        for (String face : METHODS) {
            check.holds("a private method is named as " + face, !hidden.contains(face.substring(0, face.indexOf('('))));
        }
        Constructor<?>[] constructors = FarBanks.class.getDeclaredConstructors();
        check.due("constructors", constructors.length, 1);
        check.holds("the constructor is public, without arguments",
            Modifier.isPublic(constructors[0].getModifiers()) && constructors[0].getParameterCount() == 0);
        check.holds("the class is public and final",
            Modifier.isPublic(FarBanks.class.getModifiers()) && Modifier.isFinal(FarBanks.class.getModifiers()));
    }

    private static String signature(Method method) {
        StringBuilder text = new StringBuilder(method.getName()).append('(');
        for (Class<?> type : method.getParameterTypes()) {
            text.append(text.charAt(text.length() - 1) == '(' ? "" : ",").append(type.getName());
        }
        return text.append(')').toString();
    }
}
