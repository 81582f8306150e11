import java.lang.reflect.Constructor;
import java.lang.reflect.Field;
import java.lang.reflect.Method;
import java.lang.reflect.Modifier;
import java.util.Arrays;
import java.util.Set;
import java.util.TreeSet;

/** The public face, and that nothing else of the class can be seen. */
public final class FaceTest {
    private static final Set<String> METHODS = new TreeSet<>(Arrays.asList(
            "int instruction(int,int)", "void clear()", "boolean level(int,int,int)", "int check()",
            "int surrounding(int)", "int pile(int,int)", "int junction(int)", "boolean let(int,int,int)",
            "boolean lay(int,int,int,int)", "int run(int,int)", "int ran(int,int)",
            "int out(int,int,int)", "int same(int)", "int memory(int,int)"));

    public static void main(String[] args) {
        Sheet sheet = new Sheet("FaceTest");
        int modifiers = SecretLoom.class.getModifiers();
        sheet.due("public", Modifier.isPublic(modifiers), true);
        sheet.due("final", Modifier.isFinal(modifiers), true);
        sheet.due("NONE", SecretLoom.NONE, -1);
        lookAtMethods(sheet);
        lookAtFields(sheet);
        for (Constructor<?> c : SecretLoom.class.getDeclaredConstructors()) {
            sheet.due("constructor " + c, Modifier.isPublic(c.getModifiers()) && c.getParameterCount() == 0, true);
        }
        for (Class<?> c : SecretLoom.class.getDeclaredClasses()) {
            int of = c.getModifiers();
            sheet.due("static " + c, Modifier.isStatic(of), true);
            sheet.due("hidden " + c, Modifier.isPublic(of) || Modifier.isProtected(of), false);
        }
        sheet.end();
    }

    private static void lookAtMethods(Sheet sheet) {
        Set<String> seen = new TreeSet<>();
        Set<String> open = new TreeSet<>();
        Set<String> hidden = new TreeSet<>();
        for (Method m : SecretLoom.class.getDeclaredMethods()) {
            if (Modifier.isPublic(m.getModifiers())) {
                seen.add(signatureOf(m));
                open.add(m.getName());
            } else {
                sheet.due("private " + m, Modifier.isPrivate(m.getModifiers()), true);
                hidden.add(m.getName());
            }
        }
        if (!seen.equals(METHODS)) {
            sheet.tell("the public methods are " + seen);
        }
        for (String name : hidden) {
            sheet.due("a private method bears a public one's name: " + name, open.contains(name), false);
        }
    }

    private static void lookAtFields(Sheet sheet) {
        for (Field f : SecretLoom.class.getDeclaredFields()) {
            if (!f.getName().equals("NONE")) {
                sheet.due("private " + f, Modifier.isPrivate(f.getModifiers()), true);
            }
            if (Modifier.isStatic(f.getModifiers())) {
                sheet.due("final " + f, Modifier.isFinal(f.getModifiers()), true);
            }
        }
    }

    private static String signatureOf(Method m) {
        StringBuilder text = new StringBuilder();
        text.append(m.getReturnType().getName()).append(' ').append(m.getName()).append('(');
        Class<?>[] types = m.getParameterTypes();
        for (int i = 0; i < types.length; i++) {
            text.append(i == 0 ? "" : ",").append(types[i].getName());
        }
        return text.append(')').toString();
    }
}
