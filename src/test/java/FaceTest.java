import java.io.IOException;
import java.lang.reflect.Constructor;
import java.lang.reflect.Field;
import java.lang.reflect.Method;
import java.lang.reflect.Modifier;
import java.nio.file.Files;
import java.nio.file.Path;
import java.util.Arrays;
import java.util.Set;
import java.util.TreeSet;
import java.util.regex.Matcher;
import java.util.regex.Pattern;

/** The face of the document, and rules of LANGUAGE.md that can be seen from outside. */
public final class FaceTest {
    private static final String[] FACE = {
        "int farm(int,int,int)", "int set(int,int,int)", "int of(int,int)", "int as(int,int)",
        "int rule(int,int)", "int dry(int)", "int year()", "int turn(int)", "int swap(int,int)",
        "int turns(int)", "int told()", "long best(int)", "int share(int)", "int rest(int,int)",
        "long lost(int)", "int least(int)", "long hire(int)", "int breaks(int)", "int blame(int)",
        "int always()", "int feed(int,int)", "int wipe()", "int text()", "int plain()",
        "int gives(int)", "int seed(int)", "int nights(int)", "int ahead(int,int)", "int purse(int)",
        "int sheet(int,int,int)", "long write(int,int,long)", "int copy(int,int,int,int,int)",
        "int worths(int)", "int read(int)", "int image()", "int undo()", "int tear()",
        "int count(int)", "int status(int)",
    };
    private static final Path SOURCE = Path.of("src/main/java/NightDitch.java");
    private static final String[] FORBIDDEN = {
        "throw", "throws", "try", "catch", "synchronized", "assert", "import", "package", "protected",
        "double", "float", "while", "System\\.out", "->", "::", "Exact",
    };

    public static void main(String[] args) throws IOException {
        face();
        members(NightDitch.class);
        for (Class<?> inside : NightDitch.class.getDeclaredClasses()) {
            Due.holds("static, private: " + inside, Modifier.isStatic(inside.getModifiers())
                && Modifier.isPrivate(inside.getModifiers()));
            members(inside);
        }
        Due.holds("some twelve classes", NightDitch.class.getDeclaredClasses().length <= 12);
        words(Files.readString(SOURCE));
        madeOnce(Files.readString(SOURCE));
        Due.end();
    }

    private static void face() {
        Set<String> found = new TreeSet<>();
        for (Method method : NightDitch.class.getDeclaredMethods()) {
            if (!Modifier.isPrivate(method.getModifiers())) {
                Due.holds("public, not static: " + method, method.getModifiers() == Modifier.PUBLIC);
                found.add(shape(method));
            }
        }
        Due.holds("the face: " + found, found.equals(new TreeSet<>(Arrays.asList(FACE))));
        Constructor<?>[] made = NightDitch.class.getDeclaredConstructors();
        Due.holds("one public constructor", made.length == 1 && made[0].getParameterCount() == 0
            && Modifier.isPublic(made[0].getModifiers()));
        Due.holds("public and final", NightDitch.class.getModifiers() == (Modifier.PUBLIC | Modifier.FINAL));
        for (Field field : NightDitch.class.getDeclaredFields()) {
            Due.holds("private: " + field, Modifier.isPrivate(field.getModifiers()));
        }
    }

    private static String shape(Method method) {
        StringBuilder shape = new StringBuilder(method.getReturnType() + " " + method.getName() + "(");
        for (Class<?> type : method.getParameterTypes()) {
            shape.append(shape.charAt(shape.length() - 1) == '(' ? "" : ",").append(type);
        }
        return shape.append(')').toString();
    }

    private static void members(Class<?> inside) {
        int fields = 0;
        for (Field field : inside.getDeclaredFields()) {
            boolean fixed = Modifier.isStatic(field.getModifiers());
            Due.holds("final: " + field, !fixed || Modifier.isFinal(field.getModifiers()));
            fields += fixed ? 0 : 1;
        }
        Due.holds("some twenty fields: " + inside, fields <= 20);
        for (Method method : inside.getDeclaredMethods()) {
            Due.holds("seven parameters: " + method, method.getParameterCount() <= 7);
            boolean named = Arrays.stream(FACE).anyMatch(f -> f.contains(" " + method.getName() + "("));
            Due.holds("no name of the face: " + method, inside == NightDitch.class
                ? named == Modifier.isPublic(method.getModifiers()) : !named);
        }
    }

    private static void words(String source) {
        String code = withoutComments(source);
        for (String word : FORBIDDEN) {
            String border = Character.isLetter(word.charAt(0)) && !word.equals("Exact") ? "\\b" : "";
            Due.holds("no " + word, !Pattern.compile(border + word + border).matcher(code).find());
        }
        for (char c : source.toCharArray()) {
            Due.holds("signs 1 to 127", c > 0 && c < 128);
        }
    }

    private static String withoutComments(String source) {
        return source.replaceAll("(?s)/\\*.*?\\*/", "").replaceAll("//[^\n]*", "");
    }

    /** Objects are made as an object is made, never by a call: in fields, or in the one constructor with rows. */
    private static void madeOnce(String source) {
        Matcher made = Pattern.compile("(?m)^.*\\bnew\\b.*$").matcher(withoutComments(source));
        while (made.find()) {
            String line = made.group().trim();
            Due.holds("made once: " + line, line.matches("(private )?final .*")
                || line.equals("farms[i] = new Farm();") || line.equals("meets[i] = new Meet();"));
        }
    }
}
