import java.lang.reflect.Constructor;
import java.lang.reflect.Field;
import java.lang.reflect.Method;
import java.lang.reflect.Modifier;
import java.nio.charset.StandardCharsets;
import java.nio.file.Files;
import java.nio.file.Path;
import java.util.HashSet;
import java.util.Set;
import java.util.TreeSet;
import java.util.regex.Matcher;
import java.util.regex.Pattern;

/** The face of the class, and those rules of ../shared/LANGUAGE.md that its file can be searched for. */
final class RuleTests {
    private static final String[] FACE = {"int board(int,int)", "char put(int,char)", "char goal(int,char)",
        "int turn(int)", "int swap(int,int)", "boolean bar(int)", "int scramble(int,int)", "int step()",
        "char letter(int)", "char sign(int)", "boolean isBarred(int)", "int boardOf(int)", "int away(boolean)",
        "int firstTurn()", "boolean isOut()", "boolean isOdd(boolean)", "int home()", "int would(int)", "int best()",
        "int where(int,int,int)", "int far(int,int)", "boolean sings(int)", "int singing()", "int ranked(int)",
        "int text()", "int goalText()", "int lineText(int)", "char character(int)", "int append(char)", "int run()",
        "int errorPosition()", "int refusal(boolean)", "int account(int)", "boolean isWell()", "double meanFar()",
        "float homeShare()", "int undo()", "int save()", "int restore()"};
    private static final String[] THROWN = {"board IllegalArgumentException",
        "put IndexOutOfBoundsException IllegalArgumentException UnsupportedOperationException",
        "goal IndexOutOfBoundsException IllegalArgumentException UnsupportedOperationException",
        "turn IndexOutOfBoundsException UnsupportedOperationException",
        "swap IndexOutOfBoundsException UnsupportedOperationException", "bar IndexOutOfBoundsException",
        "scramble IllegalArgumentException", "step UnsupportedOperationException NoSuchElementException",
        "letter IndexOutOfBoundsException", "sign IndexOutOfBoundsException", "isBarred IndexOutOfBoundsException",
        "boardOf IllegalArgumentException", "away NoSuchElementException", "firstTurn NoSuchElementException",
        "isOdd NoSuchElementException", "would IndexOutOfBoundsException", "best NoSuchElementException",
        "where IndexOutOfBoundsException IllegalArgumentException", "far IndexOutOfBoundsException",
        "sings IndexOutOfBoundsException", "ranked NoSuchElementException", "lineText IndexOutOfBoundsException",
        "character IndexOutOfBoundsException", "append IllegalStateException",
        "run IllegalArgumentException UnsupportedOperationException", "refusal NoSuchElementException",
        "account IllegalArgumentException", "meanFar ArithmeticException", "undo IllegalStateException",
        "restore IllegalStateException"};
    private static final String[] NOT_THERE = {"\\bcatch\\b", "\\bfinally\\b", "->", "::", "\\bstatic\\s*\\{",
        "\\bsynchronized\\b", "\\bassert\\b", "\\binstanceof\\b", "\\bpackage\\b", "\\bMath\\.\\w*Exact",
        "\\bprotected\\b", "@", "\\bthrow\\s+(?!new\\b)",
        "\"\\s*\\+|\\+\\s*\"", "[^\\n\\x20-\\x7e]", "\\bimport (?!java\\.util\\.NoSuchElementException;)"};

    private final String source;

    private RuleTests(String source) {
        this.source = source;
    }

    static void addTo(AllTests all, Path file) throws Exception {
        RuleTests rules = new RuleTests(Files.readString(file, StandardCharsets.UTF_8));
        all.add("the face", RuleTests::face);
        all.add("the exceptions that the face names, in their order", RuleTests::thrown);
        all.add("no other member of the face's names", RuleTests::names);
        all.add("the fields", RuleTests::fields);
        all.add("what the file may not have", rules::notThere);
        all.add("methods are short", rules::shortMethods);
    }

    private static void face() {
        Set<String> due = new TreeSet<>(Set.of(FACE));
        Set<String> got = new TreeSet<>();
        for (Method method : VowelTorus.class.getDeclaredMethods()) {
            if (Modifier.isPublic(method.getModifiers())) {
                got.add(told(method));
            } else {
                Check.isTrue(method + " is private", Modifier.isPrivate(method.getModifiers()) || method.isSynthetic());
            }
        }
        Check.is("the public methods", due, got);
        Check.isTrue("the class is final", Modifier.isFinal(VowelTorus.class.getModifiers()));
        Constructor<?>[] constructors = VowelTorus.class.getDeclaredConstructors();
        Check.is("the constructors", 1, constructors.length);
        Check.isTrue("it is public", Modifier.isPublic(constructors[0].getModifiers()));
    }

    private static void thrown() {
        Set<String> got = new TreeSet<>();
        for (Method method : VowelTorus.class.getDeclaredMethods()) {
            StringBuilder told = new StringBuilder(method.getName());
            for (Class<?> type : method.getExceptionTypes()) {
                told.append(' ').append(type.getSimpleName());
            }
            if (Modifier.isPublic(method.getModifiers()) && method.getExceptionTypes().length > 0) {
                got.add(told.toString());
            }
        }
        Check.is("the exceptions of the face", new TreeSet<>(Set.of(THROWN)), got);
    }

    private static String told(Method method) {
        StringBuilder told = new StringBuilder(method.getReturnType() + " " + method.getName() + "(");
        for (Class<?> type : method.getParameterTypes()) {
            told.append(told.charAt(told.length() - 1) == '(' ? "" : ",").append(type);
        }
        return told.append(")").toString();
    }

    private static void names() {
        Set<String> face = new HashSet<>();
        for (String method : FACE) {
            face.add(method.substring(method.indexOf(' ') + 1, method.indexOf('(')));
        }
        for (Class<?> inside : VowelTorus.class.getDeclaredClasses()) {
            for (Method method : inside.getDeclaredMethods()) {
                Check.isFalse(method + " has a name of the face", face.contains(method.getName()));
            }
        }
        Check.isTrue("at most 12 classes", VowelTorus.class.getDeclaredClasses().length < 12);
    }

    private static void fields() {
        fieldsOf(VowelTorus.class);
        for (Class<?> inside : VowelTorus.class.getDeclaredClasses()) {
            Check.isTrue(inside + " is private and static",
                Modifier.isPrivate(inside.getModifiers()) && Modifier.isStatic(inside.getModifiers()));
            fieldsOf(inside);
        }
    }

    private static void fieldsOf(Class<?> type) {
        int own = 0;
        for (Field field : type.getDeclaredFields()) {
            int kind = field.getModifiers();
            own += Modifier.isStatic(kind) ? 0 : 1;
            Check.isTrue(field + " is final, if static", Modifier.isFinal(kind) || !Modifier.isStatic(kind));
            Check.isTrue(field + " is private", type != VowelTorus.class || Modifier.isPrivate(kind));
        }
        Check.isTrue("at most 20 fields of " + type, own <= 20);
    }

    private String code() {
        return source.replaceAll("(?s)/\\*.*?\\*/", "").replaceAll("//[^\\n]*", "");
    }

    private void notThere() {
        for (String wrong : NOT_THERE) {
            Matcher found = Pattern.compile(wrong).matcher(code());
            Check.isFalse(wrong + " is in the file", found.find());
        }
    }

    private void shortMethods() {
        String method = "(?m)^( {4,8})[^\\s}][^;=\\n]*\\([^;]*?\\{\\n(.*\\n)*?\\1\\}\\n";
        Matcher methods = Pattern.compile(method).matcher(source);
        int found = 0;
        while (methods.find()) {
            found++;
            long lines = methods.group().lines().count();
            Check.isTrue("a method of " + lines + " lines: " + methods.group().lines().findFirst().get(), lines <= 60);
        }
        Check.isTrue("methods are found", found > 80);
    }
}
