import java.io.IOException;
import java.lang.reflect.Field;
import java.lang.reflect.Member;
import java.lang.reflect.Method;
import java.lang.reflect.Modifier;
import java.nio.file.Files;
import java.nio.file.Path;
import java.util.ArrayList;
import java.util.Arrays;
import java.util.List;
import java.util.Set;
import java.util.TreeSet;
import java.util.regex.Matcher;
import java.util.regex.Pattern;

/** Looks for what LANGUAGE.md does not allow, as far as a plain look at the source and the class can tell. */
public final class LanguageTest {
    private static final Path SOURCE = Path.of("src/main/java/SiloPads.java");
    private static final String[] BANNED = {"\\bimport\\b", "\\bpackage\\b", "->", "::", "\\bfinally\\b", "\\bsynchronized\\b",
        "\\bassert\\b", "\\bprotected\\b", "Exact\\b", "\\bDouble\\b", "\\bFloat\\b", "\\bSystem\\.(?!arraycopy\\b)", "\\bThread\\b",
        "\\bRandom\\b", "\\bvar\\b", "\\bstatic\\s*\\{", "\\binstanceof\\s+\\w+\\s*\\(", "\\bjava\\.", "\\bcatch\\b"};
    private static final String[] FACE = {
        "int append(int) IllegalArgumentException IllegalStateException",
        "int clearBuffer()",
        "int count(int) IllegalArgumentException",
        "int firstError()",
        "int flow(int,int,int) IndexOutOfBoundsException IllegalArgumentException",
        "int ifFlowed(int,int,int,int) IndexOutOfBoundsException IllegalArgumentException",
        "int layer(int,int,int) IndexOutOfBoundsException IllegalArgumentException",
        "int nextArch()",
        "int pads(int,int) IndexOutOfBoundsException IllegalArgumentException IllegalStateException",
        "int pass(int) IllegalArgumentException",
        "int play() IllegalArgumentException",
        "int set(int,int) IndexOutOfBoundsException IllegalArgumentException IllegalStateException",
        "int shake(int) IndexOutOfBoundsException IllegalStateException",
        "int shakesNeeded(int) IndexOutOfBoundsException",
        "int ship(int,int,int) IndexOutOfBoundsException IllegalArgumentException",
        "int shipOf(int,int) IndexOutOfBoundsException IllegalArgumentException",
        "int silo(int,int) IndexOutOfBoundsException IllegalArgumentException",
        "int undo() IllegalStateException",
        "int unload(int,int,int) IndexOutOfBoundsException IllegalArgumentException",
        "int urgent()",
        "int whyNot(int,int) IndexOutOfBoundsException",
        "double softness()",
        "long digest()",
    };

    private static final List<String> faults = new ArrayList<>();

    public static void main(String[] args) throws IOException {
        String source = Files.readString(SOURCE);
        for (int k = 0; k < source.length(); k++) {
            if (source.charAt(k) > 126) {
                faults.add("a sign beyond 126 at " + k);
            }
        }
        String code = withoutTexts(source);
        for (String banned : BANNED) {
            Matcher matcher = Pattern.compile(banned).matcher(code);
            if (matcher.find()) {
                faults.add("not in the language: " + matcher.group());
            }
        }
        lookAtThrows(code);
        lookAtFace();
        lookAtParts();
        for (String fault : faults) {
            System.out.println(fault);
        }
        if (!faults.isEmpty()) {
            System.exit(1);
        }
        System.out.println("LanguageTest: nothing found");
    }

    private static String withoutTexts(String source) {
        return source.replaceAll("(?s)/\\*.*?\\*/", " ").replaceAll("//[^\n]*", " ").replaceAll("\"[^\"\n]*\"", "\"\"");
    }

    private static void lookAtThrows(String code) {
        Matcher matcher = Pattern.compile("\\bthrow\\b(.*)").matcher(code);
        while (matcher.find()) {
            if (!matcher.group(1).matches(" new (IllegalState|IllegalArgument|IndexOutOfBounds)Exception\\((\"\")?\\);")) {
                faults.add("throws otherwise: " + matcher.group());
            }
        }
    }

    private static void lookAtFace() {
        Set<String> found = new TreeSet<>();
        for (Method method : SiloPads.class.getDeclaredMethods()) {
            if (Modifier.isPublic(method.getModifiers())) {
                found.add(faceOf(method));
            }
        }
        Set<String> want = new TreeSet<>(Arrays.asList(FACE));
        if (!found.equals(want)) {
            faults.add("the face is " + found + ", the document's is " + want);
        }
        if (!Modifier.isFinal(SiloPads.class.getModifiers()) || SiloPads.class.getConstructors().length != 1) {
            faults.add("the class is not final, or has not one public constructor");
        }
    }

    private static String faceOf(Method method) {
        StringBuilder face = new StringBuilder(method.getReturnType() + " " + method.getName() + "(");
        for (int k = 0; k < method.getParameterCount(); k++) {
            face.append(k == 0 ? "" : ",").append(method.getParameterTypes()[k]);
        }
        face.append(")");
        for (Class<?> thrown : method.getExceptionTypes()) {
            face.append(" ").append(thrown.getSimpleName());
        }
        return face.toString();
    }

    private static void lookAtStatics(Class<?> where) {
        Set<Class<?>> allowed = Set.of(int.class, long.class, boolean.class, char.class, String.class, int[].class, long[].class,
            char[].class, byte[].class);
        for (Field field : where.getDeclaredFields()) {
            boolean isStatic = Modifier.isStatic(field.getModifiers());
            if (isStatic && (!Modifier.isFinal(field.getModifiers()) || !allowed.contains(field.getType()))) {
                faults.add("a static field that is not final, or of another type: " + field);
            }
        }
    }

    private static void lookAtParts() {
        Set<String> publicNames = new TreeSet<>();
        for (Method method : SiloPads.class.getMethods()) {
            publicNames.add(method.getName());
        }
        List<Member> members = new ArrayList<>(Arrays.asList(SiloPads.class.getDeclaredMethods()));
        members.addAll(Arrays.asList(SiloPads.class.getDeclaredFields()));
        members.addAll(Arrays.asList(SiloPads.class.getDeclaredConstructors()));
        for (Member member : members) {
            boolean isPrivate = Modifier.isPrivate(member.getModifiers());
            if (!isPrivate && !Modifier.isPublic(member.getModifiers())) {
                faults.add("neither public nor private: " + member);
            }
            if (isPrivate && member instanceof Method && publicNames.contains(member.getName())) {
                faults.add("a private method bears a public one's name: " + member);
            }
            if (member instanceof Method && ((Method) member).getParameterCount() > 7) {
                faults.add("too many parameters: " + member);
            }
        }
        lookAtStatics(SiloPads.class);
        for (Class<?> inside : SiloPads.class.getDeclaredClasses()) {
            lookAtStatics(inside);
            if (!Modifier.isStatic(inside.getModifiers()) || Modifier.isPublic(inside.getModifiers())) {
                faults.add("not static, or public: " + inside);
            }
        }
    }
}
