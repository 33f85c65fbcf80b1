import java.io.IOException;
import java.lang.reflect.Constructor;
import java.lang.reflect.Field;
import java.lang.reflect.Method;
import java.lang.reflect.Modifier;
import java.nio.file.Files;
import java.nio.file.Path;
import java.util.ArrayList;
import java.util.Arrays;
import java.util.HashSet;
import java.util.List;
import java.util.Set;
import java.util.TreeSet;
import java.util.regex.Matcher;
import java.util.regex.Pattern;

/** The document's face, and what of ../shared/LANGUAGE.md a program can see. */
public final class FaceTest {
    private static final Due due = new Due("FaceTest");
    private static final String[] FACE = {
        "int set(int,int)", "int count(int)", "int path(int,int,int,int)", "int weigh(int,int)", "int storm(int,int)",
        "int level(int,int)", "int flood(int,int,int)", "long harm(int,int,int,int)", "int cost(int,int,int,int)",
        "int behindThen(int)", "int seen(int,int)", "long think(int,int,int,int)", "int rule(int,int,int,int)",
        "int ruleTold(int,int)", "int feed(long,int)", "int text()", "int force(int)", "long total(int,int)",
        "long spent(int,int)", "long mean(int,int)", "int row(int,int,int,int)", "int judge(int,int)",
        "long drawn(int,int,int)", "long best(int,int)", "int planned(int,int)", "long know(int)", "long waits(int,int)",
        "long broadWorth(int)", "int decided()", "long regret(int,int)", "long worst(int)", "int sure(int)",
        "long thousand(int,int)", "int price(int)", "int street(int,int)", "int when(int,int,int)",
        "int away(int,int,int,int)", "int town(int,int)", "int push(int)", "long pays(int,int,int,int,int)",
        "int rests(int,int,int)", "int together(int,int,int)", "int joint(int,int,int,int)", "int join(int,int,int,int)",
        "int image()", "int back()", "int sheet(int,int,int)", "int cell(int,int,int)", "int copy(int,int,int,int,int)",
        "int stormsBy(int,int,int,int)", "int taken(int,int)",
    };

    public static void main(String[] args) throws IOException {
        face();
        inside();
        source(Files.readString(Path.of(System.getProperty("howhigh.source", "src/main/java/HowHigh.java"))));
        due.end();
    }

    private static String told(Method m) {
        List<String> types = new ArrayList<>();
        for (Class<?> type : m.getParameterTypes()) {
            types.add(type.getName());
        }
        return m.getReturnType().getName() + " " + m.getName() + "(" + String.join(",", types) + ")";
    }

    private static void face() {
        Class<?> c = HowHigh.class;
        due.is("public and final", c.getModifiers(), Modifier.PUBLIC | Modifier.FINAL);
        Set<String> methods = new TreeSet<>();
        for (Method m : c.getDeclaredMethods()) {
            if (!Modifier.isPrivate(m.getModifiers())) {
                due.is("public alone: " + m, m.getModifiers(), Modifier.PUBLIC);
                methods.add(told(m));
            }
        }
        due.holds("the methods: " + methods, methods.equals(new TreeSet<>(Arrays.asList(FACE))));
        Set<String> fields = new TreeSet<>();
        for (Field f : c.getDeclaredFields()) {
            if (!Modifier.isPrivate(f.getModifiers())) {
                fields.add(Modifier.toString(f.getModifiers()) + " " + f.getType() + " " + f.getName());
            }
        }
        String head = "public static final int ";
        due.holds("the constants: " + fields, fields.equals(Set.of(head + "NONE", head + "BAD", head + "STATE",
            head + "FULL", "public static final long NO")));
        Constructor<?>[] made = c.getDeclaredConstructors();
        due.is("one constructor", made.length, 1);
        due.is("without arguments", made[0].getParameterCount(), 0);
        due.is("public", made[0].getModifiers(), Modifier.PUBLIC);
        due.holds("of nothing else", c.getSuperclass() == Object.class && c.getInterfaces().length == 0);
    }

    private static void inside() {
        Set<String> open = new HashSet<>();
        for (String told : FACE) {
            open.add(told.substring(told.indexOf(' ') + 1, told.indexOf('(')));
        }
        List<Class<?>> all = new ArrayList<>(List.of(HowHigh.class.getDeclaredClasses()));
        due.holds("some twelve classes", all.size() < 12);
        all.add(HowHigh.class);
        for (Class<?> c : all) {
            boolean face = c == HowHigh.class;
            due.holds("static: " + c, face || Modifier.isStatic(c.getModifiers()));
            due.holds("not open: " + c, face || (c.getModifiers() & (Modifier.PUBLIC | Modifier.PROTECTED)) == 0);
            int fields = 0;
            for (Field f : c.getDeclaredFields()) {
                boolean isStatic = Modifier.isStatic(f.getModifiers());
                due.holds("static is final: " + f, !isStatic || Modifier.isFinal(f.getModifiers()));
                due.holds("static is a number or a text: " + f,
                    !isStatic || f.getType().isPrimitive() || f.getType() == String.class);
                fields += isStatic ? 0 : 1;
            }
            due.holds("some twenty fields: " + c + " " + fields, fields <= 20);
            for (Method m : c.getDeclaredMethods()) {
                boolean isPublic = Modifier.isPublic(m.getModifiers());
                due.holds("a name of the face's: " + m, isPublic && face || !open.contains(m.getName()));
                due.holds("seven parameters: " + m, m.getParameterCount() <= 7);
                due.holds("not made by the compiler: " + m, !m.isSynthetic());
            }
        }
    }

    private static void source(String told) {
        String plain = told.replaceAll("(?s)/\\*.*?\\*/", "").replaceAll("//[^\n]*", "")
            .replaceAll("\"[^\"\n]*\"", "\"\"").replaceAll("'.'", "' '");
        String[] words = {
            "throw", "throws", "try", "catch", "finally", "synchronized", "assert", "float", "double", "package",
            "yield", "var", "sealed", "native", "volatile", "transient", "Object", "Exact",
        };
        for (String word : words) {
            due.holds("no " + word, !Pattern.compile("\\b" + word + "\\b|\\w" + word + "\\(").matcher(plain).find());
        }
        for (String sign : new String[] {"->", "::", "@", "static {", "\"\" +", "+ \"\""}) {
            due.holds("no " + sign, !plain.contains(sign));
        }
        Matcher imports = Pattern.compile("import ([^;]*);").matcher(plain);
        while (imports.find()) {
            due.holds("import " + imports.group(1),
                Set.of("java.util.Arrays", "java.util.ArrayList", "java.util.List").contains(imports.group(1)));
        }
        due.holds("signs 0 to 127", told.chars().allMatch(c -> c < 128));
        Matcher library = Pattern.compile("\\b(Math|Arrays|System|Integer|Long)\\.(\\w+)").matcher(plain);
        while (library.find()) {
            due.holds("library " + library.group(), Set.of("Math.max", "Math.min", "Math.abs", "Arrays.fill",
                "Arrays.copyOf", "System.arraycopy").contains(library.group()));
        }
        methodsAreShort(plain.split("\n"));
    }

    /** Methods begin with a head that ends in an open brace, and end with a brace as far in as the head. */
    private static void methodsAreShort(String[] lines) {
        Pattern head = Pattern.compile("^( {4,8})(?! )[^=;]*\\)\\s*\\{$");
        for (int i = 0; i < lines.length; i++) {
            Matcher m = head.matcher(lines[i]);
            if (m.find() && !lines[i].matches("\\s*(if|for|while|switch|else|do)\\b.*|\\s*\\}.*")) {
                int end = i;
                while (end < lines.length && !lines[end].equals(m.group(1) + "}")) {
                    end++;
                }
                due.holds("some sixty lines:" + lines[i], end - i < 60);
            }
        }
    }
}
