import java.io.IOException;
import java.lang.reflect.Constructor;
import java.lang.reflect.Field;
import java.lang.reflect.Method;
import java.lang.reflect.Modifier;
import java.nio.file.Files;
import java.nio.file.Path;
import java.util.ArrayList;
import java.util.Arrays;
import java.util.List;
import java.util.TreeSet;
import java.util.regex.Matcher;
import java.util.regex.Pattern;
import java.util.stream.Collectors;

/** The face as the document has it, and those rules of LANGUAGE.md that a look at the source can tell. */
public final class LanguageTest {
    private static final Due DUE = new Due("LanguageTest");
    private static final String INDEX = "IndexOutOfBoundsException";
    private static final String ARGUMENT = "IllegalArgumentException";
    private static final String STATE = "IllegalStateException";

    public static void main(String[] args) throws IOException {
        face();
        hidden();
        source(Files.readString(Path.of("src/main/java/AsteroTone.java")));
        DUE.close();
    }

    private static void face() {
        due("int shell(int,int,int)", ARGUMENT, STATE);
        due("int star(int)", ARGUMENT, STATE);
        due("int frame(int,int,int,int)", INDEX, ARGUMENT);
        due("int drop(int,int)", INDEX, ARGUMENT, STATE);
        due("boolean mask(int,boolean)", INDEX);
        due("int threshold(int)", ARGUMENT);
        due("int takeOut(int,int)", INDEX, ARGUMENT, STATE);
        due("int putBack(int)", INDEX);
        due("int claimTone(int,int,int)", INDEX, STATE);
        due("int claimAge(int,int)", INDEX, ARGUMENT, STATE);
        due("int claimPlanet(int)", INDEX, ARGUMENT, STATE);
        due("int cite(int,int)", INDEX, ARGUMENT, STATE);
        due("int withdraw(int)", INDEX, STATE);
        due("int audit()");
        due("int ofStar(int,int)", INDEX, ARGUMENT);
        due("int crossingAnew(int)", INDEX);
        due("int tone(int,int,int,int)", INDEX, ARGUMENT);
        due("int frames(int)", INDEX);
        due("int value(int,int,int)", INDEX, ARGUMENT);
        due("long power(int,int,int)", INDEX, ARGUMENT);
        due("long window(int,int)", INDEX, ARGUMENT);
        due("boolean isPeak(int,int,int)", INDEX);
        due("boolean isSeenThrough(int,int,int,int)", INDEX, ARGUMENT);
        due("int ofClaim(int,int)", INDEX, ARGUMENT);
        due("boolean isSound(int)", INDEX);
        DUE.is("methods of the face", 25, open().size());
    }

    private static List<Method> open() {
        return Arrays.stream(AsteroTone.class.getDeclaredMethods())
                .filter(m -> !Modifier.isPrivate(m.getModifiers()) && !m.isSynthetic())
                .collect(Collectors.toList());
    }

    private static void due(String face, String... thrown) {
        String want = face + " " + Arrays.toString(thrown);
        DUE.holds(want, open().stream().anyMatch(m -> Modifier.isPublic(m.getModifiers())
                && want.equals(told(m))));
    }

    private static String told(Method m) {
        String taken = Arrays.stream(m.getParameterTypes()).map(Class::getName).collect(Collectors.joining(","));
        List<String> thrown = new ArrayList<>();
        for (Class<?> type : m.getExceptionTypes()) {
            thrown.add(type.getSimpleName());
        }
        return m.getReturnType() + " " + m.getName() + "(" + taken + ") " + thrown;
    }

    private static void hidden() {
        int type = AsteroTone.class.getModifiers();
        DUE.holds("public and final", Modifier.isPublic(type) && Modifier.isFinal(type));
        TreeSet<String> names = new TreeSet<>();
        for (Field field : AsteroTone.class.getDeclaredFields()) {
            int how = field.getModifiers();
            if (!Modifier.isPrivate(how)) {
                names.add(field.getName());
                DUE.holds(field.getName() + " is a constant",
                        Modifier.isPublic(how) && Modifier.isStatic(how) && Modifier.isFinal(how));
            }
            DUE.holds(field.getName() + " is final if it is static", !Modifier.isStatic(how) || Modifier.isFinal(how));
        }
        DUE.holds("the constants", names.toString().equals("[AGE, DRIFT, MEAN, NONE, PLANET, RAW, TONE]"));
        Constructor<?>[] makers = AsteroTone.class.getDeclaredConstructors();
        DUE.holds("one public constructor without parameters", makers.length == 1
                && Modifier.isPublic(makers[0].getModifiers()) && makers[0].getParameterCount() == 0);
        TreeSet<String> face = open().stream().map(Method::getName).collect(Collectors.toCollection(TreeSet::new));
        List<Class<?>> types = new ArrayList<>(Arrays.asList(AsteroTone.class.getDeclaredClasses()));
        types.add(AsteroTone.class);
        DUE.holds("some twelve classes", types.size() <= 12);
        for (Class<?> inside : types) {
            for (Method method : inside.getDeclaredMethods()) {
                boolean isOpen = inside == AsteroTone.class && Modifier.isPublic(method.getModifiers());
                DUE.holds(method.getName() + " bears no name of the face", isOpen || !face.contains(method.getName()));
                DUE.holds(method.getName() + " takes seven at most", method.getParameterCount() <= 7);
            }
        }
    }

    private static void source(String text) {
        DUE.holds("signs 1 to 127", text.chars().allMatch(c -> c >= 1 && c <= 127));
        String bare = text.replaceAll("(?s)/\\*.*?\\*/", "").replaceAll("//[^\n]*", "");
        for (String line : bare.split("\n")) {
            DUE.holds("imports what is listed: " + line, !line.startsWith("import ")
                    || line.matches("import java\\.util\\.(Arrays|ArrayList|List|Iterator|NoSuchElementException);"));
        }
        bare = bare.replaceAll("\"[^\"]*\"", "\"\"");
        for (String word : new String[] {"package", "protected", "synchronized", "assert", "finally", "catch", "try",
            "System", "Exact", "double", "float", "var", "import static", "hashCode", "toString", "Object"}) {
            DUE.holds("no " + word, !bare.matches("(?s).*\\b" + word + "\\b.*"));
        }
        for (String sign : new String[] {"->", "::", "Exact(", "<>", "\"\" +", "+ \"\""}) {
            DUE.holds("no " + sign, !bare.contains(sign));
        }
        listedFunctions(bare);
        shortMethods(bare);
    }

    /** Of the library's static members rule 4 lists functions alone, and no constants such as MAX_VALUE. */
    private static void listedFunctions(String bare) {
        Matcher used = Pattern.compile("\\b(Integer|Long|Math|Arrays|String|List|Boolean|Character)\\.(\\w+\\(?)")
                .matcher(bare);
        while (used.find()) {
            String listed = used.group(1).equals("Arrays") ? "copyOf\\(|copyOfRange\\(|fill\\("
                    : "compare\\(|max\\(|min\\(|abs\\(|bitCount\\(|floorDiv\\(|floorMod\\(";
            DUE.holds(used.group() + " is listed", used.group(2).matches(listed));
        }
    }

    private static void shortMethods(String bare) {
        int begun = -1;
        String[] lines = bare.split("\n");
        for (int i = 0; i < lines.length; i++) {
            if (lines[i].matches(" {4}( {4})?(public |private )[^=;]*\\{?") && !lines[i].contains("class")) {
                begun = i;
            }
            if (lines[i].matches(" {4}( {4})?\\}") && begun >= 0) {
                DUE.holds("sixty lines at most: " + lines[begun].trim(), i - begun < 60);
            }
        }
    }
}
