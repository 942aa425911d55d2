import java.lang.reflect.Constructor;
import java.lang.reflect.Field;
import java.lang.reflect.Method;
import java.lang.reflect.Modifier;
import java.util.Arrays;
import java.util.Set;
import java.util.TreeSet;

/** The public face is the document's, and nothing more can be seen from outside (LANGUAGE.md, rules 1 and 5). */
public final class FaceTest {
    private static final Due due = new Due();

    public static void main(String[] args) {
        due.part("the face");
        methods();
        fields();
        theRest();
        due.finish();
    }

    private static void methods() {
        Set<String> wanted = new TreeSet<>(Set.of("put 2", "remove 1", "get 1", "begin 0", "end 0", "undo 0", "keep 0",
            "stop 1"));
        wanted.addAll(Set.of("address 1", "bucket 2", "page 2", "cell 3", "entry 1", "effort 0", "count 1"));
        Set<String> seen = new TreeSet<>();
        Set<String> hidden = new TreeSet<>();
        for (Method method : PageBuckets.class.getDeclaredMethods()) {
            if (Modifier.isPrivate(method.getModifiers())) {
                hidden.add(method.getName());
                continue;
            }
            seen.add(method.getName() + " " + method.getParameterCount());
            boolean ints = method.getReturnType() == int.class
                && Arrays.stream(method.getParameterTypes()).allMatch(type -> type == int.class);
            if (!ints || !Modifier.isPublic(method.getModifiers()) || Modifier.isStatic(method.getModifiers())) {
                due.fail(method + " is not as the document has it");
            }
        }
        if (!seen.equals(wanted)) {
            due.fail("methods are " + seen + ", due are " + wanted);
        }
        for (String name : wanted) {
            String bare = name.substring(0, name.indexOf(' '));
            if (hidden.contains(bare)) {
                due.fail("a private method bears the name " + bare);
            }
        }
    }

    private static void fields() {
        Set<String> seen = new TreeSet<>();
        for (Field field : PageBuckets.class.getDeclaredFields()) {
            int is = field.getModifiers();
            if (Modifier.isStatic(is) && !Modifier.isFinal(is)) {
                due.fail(field + " is static and not final");
            }
            if (!Modifier.isPrivate(is)) {
                seen.add(field.getName());
            }
        }
        if (!seen.equals(Set.of("BAD", "NO", "FULL", "LOG", "NONE"))) {
            due.fail("fields that can be seen are " + seen);
        }
        due.is("BAD", PageBuckets.BAD, -2000000001);
        due.is("NO", PageBuckets.NO, -2000000002);
        due.is("FULL", PageBuckets.FULL, -2000000003);
        due.is("LOG", PageBuckets.LOG, -2000000004);
        due.is("NONE", PageBuckets.NONE, -2000000005);
    }

    private static void theRest() {
        if (!Modifier.isFinal(PageBuckets.class.getModifiers()) || !Modifier.isPublic(PageBuckets.class.getModifiers())) {
            due.fail("the class is not public and final");
        }
        Constructor<?>[] made = PageBuckets.class.getDeclaredConstructors();
        if (made.length != 1 || made[0].getParameterCount() != 0 || !Modifier.isPublic(made[0].getModifiers())) {
            due.fail("the constructor is not the document's");
        }
        for (Class<?> inside : PageBuckets.class.getDeclaredClasses()) {
            int is = inside.getModifiers();
            if (!Modifier.isStatic(is) || Modifier.isPublic(is) || Modifier.isProtected(is)) {
                due.fail(inside + " is not a hidden static class");
            }
        }
    }
}
