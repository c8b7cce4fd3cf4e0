import java.lang.reflect.Constructor;
import java.lang.reflect.Field;
import java.lang.reflect.Method;
import java.lang.reflect.Modifier;
import java.util.Arrays;
import java.util.Set;
import java.util.TreeSet;

/** The class has the members of the document's face, no other that is not private, no static state. */
public final class FaceTest {
    private static final String[] DUE = {
        "public ChainPicker()",
        "public static final int ChainPicker.NONE",
        "public int ChainPicker.pass(int) throws java.lang.IllegalArgumentException",
        "public int ChainPicker.begin(int,int)",
        "public boolean ChainPicker.tell(int,int,int)",
        "public boolean ChainPicker.end(int,boolean)",
        "public int ChainPicker.chain(int,int)",
        "public int ChainPicker.link(int,int,int) throws java.lang.IndexOutOfBoundsException",
        "public int ChainPicker.view(int,int,int)",
        "public int ChainPicker.files(int,int)",
        "public int ChainPicker.source(int,int,int)",
        "public boolean ChainPicker.prune(int)",
        "public int ChainPicker.expire(int) throws java.lang.IllegalArgumentException",
        "public int ChainPicker.job(int,int)",
        "public int ChainPicker.count(int)",
    };

    public static void main(String[] args) {
        Check check = new Check("FaceTest");
        Set<String> due = new TreeSet<>(Arrays.asList(DUE));
        Set<String> got = membersInSight();
        for (String member : due) {
            check.yes("has " + member, got.contains(member));
        }
        for (String member : got) {
            check.yes("may have " + member, due.contains(member));
        }
        classItself(check);
        classesInside(check);
        namesAreNotShared(check);
        staticFieldsAreFinal(check, ChainPicker.class);
        check.finish();
    }

    private static void classItself(Check check) {
        int modifiers = ChainPicker.class.getModifiers();
        check.yes("is public", Modifier.isPublic(modifiers));
        check.yes("is final", Modifier.isFinal(modifiers));
        check.same("its package", ChainPicker.class.getPackageName(), "");
        check.yes("extends nothing", ChainPicker.class.getSuperclass() == Object.class);
        check.same("interfaces", ChainPicker.class.getInterfaces().length, 0);
        check.same("NONE", ChainPicker.NONE, -1);
    }

    private static void classesInside(Check check) {
        for (Class<?> inside : ChainPicker.class.getDeclaredClasses()) {
            int modifiers = inside.getModifiers();
            check.yes(inside + " is static", Modifier.isStatic(modifiers));
            check.no(inside + " is public", Modifier.isPublic(modifiers));
            check.no(inside + " is protected", Modifier.isProtected(modifiers));
            staticFieldsAreFinal(check, inside);
        }
    }

    private static void namesAreNotShared(Check check) {
        Set<String> calls = new TreeSet<>();
        for (Method method : ChainPicker.class.getMethods()) {
            calls.add(method.getName());
        }
        for (Method method : ChainPicker.class.getDeclaredMethods()) {
            if (Modifier.isPrivate(method.getModifiers())) {
                check.no("a public method is called " + method.getName(), calls.contains(method.getName()));
            }
        }
    }

    private static void staticFieldsAreFinal(Check check, Class<?> owner) {
        for (Field field : owner.getDeclaredFields()) {
            int modifiers = field.getModifiers();
            check.yes(field + " is final or no static one",
                    Modifier.isFinal(modifiers) || !Modifier.isStatic(modifiers));
        }
    }

    private static Set<String> membersInSight() {
        Set<String> members = new TreeSet<>();
        for (Constructor<?> made : ChainPicker.class.getDeclaredConstructors()) {
            if (!Modifier.isPrivate(made.getModifiers())) {
                members.add(made.toString());
            }
        }
        for (Method method : ChainPicker.class.getDeclaredMethods()) {
            if (!Modifier.isPrivate(method.getModifiers())) {
                members.add(method.toString());
            }
        }
        for (Field field : ChainPicker.class.getDeclaredFields()) {
            if (!Modifier.isPrivate(field.getModifiers())) {
                members.add(field.toString());
            }
        }
        return members;
    }
}
