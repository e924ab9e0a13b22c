import java.lang.reflect.Executable;
import java.lang.reflect.Field;
import java.lang.reflect.Member;
import java.lang.reflect.Method;
import java.lang.reflect.Modifier;
import java.util.ArrayList;
import java.util.Arrays;
import java.util.List;
import java.util.Set;
import java.util.TreeSet;
import java.util.stream.Collectors;

/** The public face: just the members of the document, -Ddocument=FILE tells where it stands. */
public final class FaceTest {
    private static final int CLASSES = 12;
    private static final int FIELDS = 20;

    public static void main(String[] args) {
        membersOfTheDocument(Document.at(System.getProperty("document")));
        shape();
        noPrivateMethodBearsAPublicName();
        for (Class<?> inside : Fieldbook.class.getDeclaredClasses()) {
            shapeOf(inside);
        }
        Expect.end();
    }

    private static void membersOfTheDocument(Document document) {
        if (document == null) {
            System.out.println("the document is not there, so the face was not compared with it");
            return;
        }
        Set<String> due = new TreeSet<>(document.face());
        Expect.same("members that the document lists", due.size(), 27);
        Expect.same("members", faceOfTheClass(), due);
    }

    private static Set<String> faceOfTheClass() {
        List<Executable> members = new ArrayList<>(List.of(Fieldbook.class.getDeclaredConstructors()));
        members.addAll(List.of(Fieldbook.class.getDeclaredMethods()));
        return members.stream().filter(member -> !isHidden(member)).map(FaceTest::lineOf)
                .collect(Collectors.toCollection(TreeSet::new));
    }

    private static boolean isHidden(Member member) {
        return Modifier.isPrivate(member.getModifiers()) || member.isSynthetic();
    }

    private static String lineOf(Executable member) {
        String modifiers = Modifier.toString(member.getModifiers());
        String type = member instanceof Method method ? method.getReturnType().getSimpleName() + " " : "";
        String thrown = namesOf(member.getExceptionTypes());
        return modifiers + " " + type + member.getName() + "(" + namesOf(member.getParameterTypes()) + ")"
                + (thrown.isEmpty() ? "" : " throws " + thrown);
    }

    private static String namesOf(Class<?>[] types) {
        return Arrays.stream(types).map(Class::getSimpleName).collect(Collectors.joining(", "));
    }

    private static void shape() {
        Class<?> book = Fieldbook.class;
        Expect.same("public and final", Modifier.toString(book.getModifiers()), "public final");
        Expect.same("without a package", book.getPackageName(), "");
        Expect.same("extends nothing", book.getSuperclass(), Object.class);
        Expect.same("implements nothing", book.getInterfaces().length, 0);
        Expect.same("few classes", book.getDeclaredClasses().length < CLASSES, true);
        for (Field field : book.getDeclaredFields()) {
            Expect.same("private field " + field.getName(), isHidden(field), true);
        }
        fieldsOf(book);
    }

    private static void noPrivateMethodBearsAPublicName() {
        Set<String> names = new TreeSet<>();
        for (Method method : Fieldbook.class.getDeclaredMethods()) {
            if (Modifier.isPublic(method.getModifiers())) {
                names.add(method.getName());
            }
        }
        for (Method method : Fieldbook.class.getDeclaredMethods()) {
            if (Modifier.isPrivate(method.getModifiers())) {
                Expect.same("public name of " + method.getName(), names.contains(method.getName()), false);
            }
        }
    }

    private static void shapeOf(Class<?> inside) {
        Expect.same("static " + inside.getName(), Modifier.isStatic(inside.getModifiers()), true);
        Expect.same("public " + inside.getName(), Modifier.isPublic(inside.getModifiers()), false);
        Expect.same("protected " + inside.getName(), Modifier.isProtected(inside.getModifiers()), false);
        fieldsOf(inside);
    }

    private static void fieldsOf(Class<?> owner) {
        int own = 0;
        for (Field field : owner.getDeclaredFields()) {
            if (!Modifier.isStatic(field.getModifiers())) {
                own++;
            } else {
                Expect.same("final " + field.getName(), Modifier.isFinal(field.getModifiers()), true);
            }
        }
        Expect.same("few fields in " + owner.getName(), own <= FIELDS, true);
    }
}
