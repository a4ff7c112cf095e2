import java.lang.reflect.Executable;
import java.lang.reflect.Field;
import java.lang.reflect.Member;
import java.lang.reflect.Method;
import java.lang.reflect.Modifier;
import java.util.ArrayList;
import java.util.List;
import java.util.Set;
import java.util.TreeSet;

/** The public face of the document, and rule 1 of LANGUAGE.md. */
public final class FaceTest {
    private static final Set<String> FACE = Set.of(
        "public static final int NONE",
        "public OutStation(int,int,int,int)",
        "public int feed(int,int,int,int,int,int) throws java.lang.IllegalArgumentException",
        "public void tick(int) throws java.lang.IllegalArgumentException",
        "public boolean binary(int,boolean) throws java.lang.IndexOutOfBoundsException",
        "public boolean analog(int,int) throws java.lang.IndexOutOfBoundsException,java.lang.IllegalArgumentException",
        "public boolean sort(boolean,int,int) throws java.lang.IndexOutOfBoundsException",
        "public void band(int,int) throws java.lang.IndexOutOfBoundsException,java.lang.IllegalArgumentException",
        "public int sent(int) throws java.lang.IndexOutOfBoundsException",
        "public int take()",
        "public int relay(int) throws java.lang.IndexOutOfBoundsException",
        "public int event(int,int,int) throws java.lang.IndexOutOfBoundsException",
        "public int check(int,int) throws java.lang.IllegalArgumentException",
        "public int count(int) throws java.lang.IndexOutOfBoundsException");

    public static void main(String[] args) {
        theClassIsPublicAndFinal();
        theFaceIsTheDocuments();
        classesInsideAreStaticAndNotPublic();
        noPrivateMethodBearsAPublicName();
        Expect.end();
    }

    private static void theClassIsPublicAndFinal() {
        int modifiers = OutStation.class.getModifiers();
        Expect.due("OutStation is public", Modifier.isPublic(modifiers), true);
        Expect.due("OutStation is final", Modifier.isFinal(modifiers), true);
        Expect.due("OutStation has no package", OutStation.class.getPackageName().isEmpty(), true);
    }

    private static void theFaceIsTheDocuments() {
        Set<String> found = new TreeSet<>();
        for (Member member : members()) {
            if (!Modifier.isPrivate(member.getModifiers()) && !member.isSynthetic()) {
                found.add(told(member));
            }
        }
        for (String line : FACE) {
            Expect.due("the face has " + line, found.contains(line), true);
        }
        for (String line : found) {
            Expect.due("the document has " + line, FACE.contains(line), true);
        }
    }

    private static List<Member> members() {
        List<Member> all = new ArrayList<>();
        all.addAll(List.of(OutStation.class.getDeclaredFields()));
        all.addAll(List.of(OutStation.class.getDeclaredConstructors()));
        all.addAll(List.of(OutStation.class.getDeclaredMethods()));
        return all;
    }

    private static String told(Member member) {
        String text = member instanceof Field field ? field.toString() : ((Executable) member).toString();
        return text.replace("OutStation.", "");
    }

    private static void classesInsideAreStaticAndNotPublic() {
        for (Class<?> inside : OutStation.class.getDeclaredClasses()) {
            int modifiers = inside.getModifiers();
            boolean open = Modifier.isPublic(modifiers) || Modifier.isProtected(modifiers);
            Expect.due(inside.getName() + " is public or protected", open, false);
            Expect.due(inside.getName() + " is static", Modifier.isStatic(modifiers), true);
        }
    }

    private static void noPrivateMethodBearsAPublicName() {
        Set<String> open = new TreeSet<>();
        for (Method method : OutStation.class.getMethods()) {
            open.add(method.getName());
        }
        List<Class<?>> classes = new ArrayList<>(List.of(OutStation.class.getDeclaredClasses()));
        classes.add(OutStation.class);
        for (Class<?> one : classes) {
            for (Method method : one.getDeclaredMethods()) {
                if (Modifier.isPrivate(method.getModifiers())) {
                    String name = method.getName();
                    Expect.due("a public method is named as the private " + name, open.contains(name), false);
                }
            }
        }
    }
}
