import java.lang.reflect.Constructor;
import java.lang.reflect.Field;
import java.lang.reflect.Member;
import java.lang.reflect.Method;
import java.lang.reflect.Modifier;
import java.nio.charset.StandardCharsets;
import java.nio.file.Files;
import java.nio.file.Path;
import java.nio.file.Paths;
import java.util.ArrayList;
import java.util.Arrays;
import java.util.Collections;
import java.util.List;
import java.util.regex.Matcher;
import java.util.regex.Pattern;

/** The class has the document's face and nothing more that can be seen from outside. */
public final class FaceTest {
    private static final Checks checks = new Checks();

    public static void main(String[] args) throws Exception {
        Class<?> face = ScrollChecks.class;
        checks.due("public and final", Modifier.PUBLIC | Modifier.FINAL, face.getModifiers());
        checks.due("the document's face", promised(), declared(face));
        List<Member> rest = new ArrayList<>();
        rest.addAll(Arrays.asList(face.getDeclaredFields()));
        rest.addAll(Arrays.asList(face.getDeclaredMethods()));
        List<String> names = new ArrayList<>();
        for (Method method : face.getDeclaredMethods()) {
            if (Modifier.isPublic(method.getModifiers())) {
                names.add(method.getName());
            }
        }
        for (Member member : rest) {
            boolean isPublic = Modifier.isPublic(member.getModifiers());
            boolean isPrivate = Modifier.isPrivate(member.getModifiers());
            checks.due("a face's method or private: " + member.getName(), true,
                isPublic && member instanceof Method || isPrivate);
            checks.due("no public name on a private method: " + member.getName(), false,
                isPrivate && member instanceof Method && names.contains(member.getName()));
        }
        for (Field field : face.getDeclaredFields()) {
            boolean isStatic = Modifier.isStatic(field.getModifiers());
            checks.due("static fields are final: " + field.getName(), true,
                !isStatic || Modifier.isFinal(field.getModifiers()));
        }
        checks.finish();
    }

    private static String declared(Class<?> face) {
        List<String> all = new ArrayList<>();
        for (Constructor<?> constructor : face.getDeclaredConstructors()) {
            all.add(Modifier.toString(constructor.getModifiers()) + " " + face.getSimpleName()
                + types(constructor.getParameterTypes()) + types(constructor.getExceptionTypes()));
        }
        for (Method method : face.getDeclaredMethods()) {
            if (Modifier.isPublic(method.getModifiers())) {
                all.add(Modifier.toString(method.getModifiers()) + " " + method.getReturnType() + " " + method.getName()
                    + types(method.getParameterTypes()) + types(method.getExceptionTypes()));
            }
        }
        Collections.sort(all);
        return String.join("\n", all);
    }

    private static String types(Class<?>[] types) {
        List<String> names = new ArrayList<>();
        for (Class<?> type : types) {
            names.add(type.getSimpleName());
        }
        return names.toString();
    }

    /** Reads the face out of the document. */
    private static String promised() throws Exception {
        Path document = Paths.get("..", "shared", "DOC.md");
        String text = new String(Files.readAllBytes(document), StandardCharsets.UTF_8);
        Pattern line = Pattern.compile("(?m)^    (public [^(\\n]*)\\(([^)]*)\\)(?: throws ([^;]*))?;$");
        List<String> all = new ArrayList<>();
        Matcher matcher = line.matcher(text);
        while (matcher.find()) {
            List<String> parameters = new ArrayList<>();
            for (String parameter : matcher.group(2).split(", ")) {
                if (!parameter.isEmpty()) {
                    parameters.add(parameter.split(" ")[0]);
                }
            }
            List<String> thrown = new ArrayList<>();
            if (matcher.group(3) != null) {
                thrown.addAll(Arrays.asList(matcher.group(3).split(", ")));
            }
            all.add(matcher.group(1) + parameters + thrown);
        }
        Collections.sort(all);
        return String.join("\n", all);
    }
}
