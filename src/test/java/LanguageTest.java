import java.io.IOException;
import java.lang.reflect.Field;
import java.lang.reflect.Method;
import java.lang.reflect.Modifier;
import java.nio.charset.StandardCharsets;
import java.nio.file.Files;
import java.nio.file.Path;
import java.util.ArrayList;
import java.util.Arrays;
import java.util.List;
import java.util.Set;
import java.util.TreeSet;
import java.util.regex.Matcher;
import java.util.regex.Pattern;

/** The face of the class, and those rules of LANGUAGE.md that can be seen from text and face. */
public final class LanguageTest {
    private static final String I = "IndexOutOfBoundsException";
    private static final String A = "IllegalArgumentException";
    private static final String S = "IllegalStateException";

    private static final String[] FACE = {
        "int invoice(int,int,int,int) " + I + " " + A + " " + S,
        "int credit(int,int) " + I + " " + A,
        "boolean dispute(int,boolean) " + I,
        "int assign(int,int,boolean) " + I + " " + S,
        "int notice(int,int) " + I + " " + S,
        "int register(int,int) " + I + " " + S,
        "int giveBack(int,int) " + I + " " + S,
        "int invoiceIs(int,int) " + I + " " + A,
        "int owedAnew(int) " + I,
        "int pay(int,int,int) " + I + " " + A + " " + S,
        "int lump(int,int,int) " + I + " " + A + " " + S,
        "int mend()",
        "long purse(int) " + I,
        "long buyer(int) " + I,
        "boolean balances()",
        "void factor(int,int,int,int) " + I + " " + A,
        "void limit(int,int,int) " + I + " " + A,
        "long base(int,int) " + I,
        "long drawn(int,int) " + I,
        "long draw(int,int,int) " + I + " " + A + " " + S,
        "long recourse(int) " + I + " " + S,
        "int fail(int) " + I + " " + S,
        "int pass(int) " + A + " " + S,
        "int pool(int) " + I + " " + S,
        "int look()",
        "long financed()",
    };

    /** Words that the rules rule out, or that this class has no need of. */
    private static final String[] RULED_OUT = {
        "import", "package", "catch", "try", "finally", "synchronized", "assert", "static \\{", "->",
        "::", "\\w+Exact\\(", "System\\.(?!arraycopy)", "Thread", "Random", "protected",
        "instanceof", "\\.equals\\(", "hashCode", "toString", "getClass", "HashMap", "float",
        "double",
    };

    private LanguageTest() {
    }

    public static void main(String[] args) throws IOException {
        face();
        fields();
        String source = args.length > 0 ? args[0] : "src/main/java/FactorHouse.java";
        String text = Files.readString(Path.of(source), StandardCharsets.UTF_8);
        characters(text);
        String code = withoutComments(text);
        for (String word : RULED_OUT) {
            String ends = word.matches("\\w+") ? "\\b" : "";
            Matcher found = Pattern.compile(ends + word + ends).matcher(code);
            Check.due("the code uses " + word, found.find(), false);
        }
        methodLengths(code);
        Check.end();
    }

    private static void face() {
        Set<String> got = new TreeSet<>();
        Set<String> names = new TreeSet<>();
        List<String> hidden = new ArrayList<>();
        for (Method method : FactorHouse.class.getDeclaredMethods()) {
            if (Modifier.isPublic(method.getModifiers())) {
                got.add(signature(method));
                names.add(method.getName());
            } else {
                Check.due(method.getName() + " is private",
                        Modifier.isPrivate(method.getModifiers()), true);
                hidden.add(method.getName());
            }
        }
        for (Class<?> inside : FactorHouse.class.getDeclaredClasses()) {
            Check.due(inside + " is static", Modifier.isStatic(inside.getModifiers()), true);
            Check.due(inside + " is not public", Modifier.isPublic(inside.getModifiers()), false);
            for (Method method : inside.getDeclaredMethods()) {
                hidden.add(method.getName());
            }
        }
        Check.due("the face", String.join("\n", got),
                String.join("\n", new TreeSet<>(Arrays.asList(FACE))));
        for (String name : hidden) {
            Check.due("a private method is named " + name, names.contains(name), false);
        }
        int modifiers = FactorHouse.class.getModifiers();
        Check.due("public and final", Modifier.isPublic(modifiers) && Modifier.isFinal(modifiers),
                true);
        Check.due("constructors", FactorHouse.class.getDeclaredConstructors().length, 1);
        Check.due("classes", FactorHouse.class.getDeclaredClasses().length <= 12, true);
    }

    private static String signature(Method method) {
        StringBuilder text = new StringBuilder();
        text.append(method.getReturnType().getSimpleName()).append(' ').append(method.getName());
        List<String> parameters = new ArrayList<>();
        for (Class<?> parameter : method.getParameterTypes()) {
            parameters.add(parameter.getSimpleName());
        }
        text.append('(').append(String.join(",", parameters)).append(')');
        for (Class<?> thrown : method.getExceptionTypes()) {
            text.append(' ').append(thrown.getSimpleName());
        }
        return text.toString();
    }

    private static void fields() {
        List<Class<?>> all = new ArrayList<>(List.of(FactorHouse.class.getDeclaredClasses()));
        all.add(FactorHouse.class);
        for (Class<?> type : all) {
            int own = 0;
            for (Field field : type.getDeclaredFields()) {
                int modifiers = field.getModifiers();
                if (Modifier.isStatic(modifiers)) {
                    Check.due(field + " is final", Modifier.isFinal(modifiers), true);
                } else {
                    own++;
                }
                boolean isFace = field.getName().equals("NONE") && type == FactorHouse.class;
                Check.due(field + " is private", Modifier.isPrivate(modifiers), !isFace);
            }
            Check.due("fields of " + type.getSimpleName() + ": " + own, own <= 20, true);
        }
    }

    private static void characters(String text) {
        for (int i = 0; i < text.length(); i++) {
            char sign = text.charAt(i);
            Check.due("the sign at " + i, sign == '\n' || (sign >= ' ' && sign < 127), true);
        }
    }

    private static String withoutComments(String text) {
        return text.replaceAll("(?s)/\\*.*?\\*/", "").replaceAll("//[^\n]*", "")
                .replaceAll("\"[^\"\n]*\"", "\"\"");
    }

    private static void methodLengths(String code) {
        Pattern head = Pattern.compile("^( {4}| {8})(private|public)[^;=]*?\\(([^)]*)\\)[^;]*?\\{$",
                Pattern.MULTILINE);
        Matcher matcher = head.matcher(code);
        int methods = 0;
        while (matcher.find()) {
            methods++;
            int end = code.indexOf("\n" + matcher.group(1) + "}", matcher.end());
            long lines = code.substring(matcher.start(), end).lines().count();
            Check.due("a method of " + lines + " lines", lines <= 60, true);
            int parameters = matcher.group(3).split(",").length;
            Check.due("a method of " + parameters + " parameters", parameters <= 7, true);
        }
        Check.due("methods found", methods >= FACE.length, true);
    }
}
