import java.io.IOException;
import java.lang.reflect.Field;
import java.lang.reflect.Method;
import java.lang.reflect.Modifier;
import java.nio.charset.StandardCharsets;
import java.nio.file.Files;
import java.nio.file.Paths;
import java.util.ArrayList;
import java.util.Arrays;
import java.util.List;
import java.util.regex.Matcher;
import java.util.regex.Pattern;

/** The rules of ../shared/LANGUAGE.md, as far as words of the source and reflection can tell. */
public final class LanguageTest {
    private static final String SOURCE = "src/main/java/DittoLog.java";

    /** What the class has no need of; an addition that needs one looks its rule up and takes it out here. */
    private static final String[] NOT_USED = {
        "throw", "throws", "try", "catch", "finally", "synchronized", "assert", "instanceof", "record", "yield", "var",
        "Float", "Double", "Object", "Thread", "Random", "System\\.(?!arraycopy)", "Math\\.(?!max|min)",
        "Arrays\\.(?!fill)", "String", "NaN", "strictfp", "native", "volatile", "transient", "protected",
    };

    public static void main(String[] args) throws IOException {
        Check check = new Check("language");
        String source = new String(Files.readAllBytes(Paths.get(SOURCE)), StandardCharsets.ISO_8859_1);
        words(check, source);
        List<Class<?>> classes = new ArrayList<>(Arrays.asList(DittoLog.class.getDeclaredClasses()));
        classes.add(DittoLog.class);
        check.isTrue("at most twelve classes", classes.size() <= 12);
        for (Class<?> one : classes) {
            members(check, one);
        }
        check.end();
    }

    private static void words(Check check, String source) {
        for (int i = 0; i < source.length(); i++) {
            check.isTrue("sign " + (int) source.charAt(i) + " at " + i, source.charAt(i) < 128);
        }
        String code = source.replaceAll("(?s)/\\*.*?\\*/", "").replaceAll("//[^\n]*", "")
            .replaceAll("'(\\\\.|[^'])'", "0");
        for (String word : NOT_USED) {
            check.isTrue("the source has " + word, !Pattern.compile("\\b" + word + (word.endsWith(")") ? "" : "\\b"))
                .matcher(code).find());
        }
        check.isTrue("lambdas, method references and texts", !code.contains("->") && !code.contains("::")
            && !code.contains("\""));
        Matcher imports = Pattern.compile("\\bimport\\b([^;]*);").matcher(code);
        while (imports.find()) {
            check.isTrue("import" + imports.group(1), imports.group(1).trim().equals("java.util.Arrays"));
        }
        check.isTrue("no package line", !Pattern.compile("\\bpackage\\b").matcher(code).find());
        lengthsAndRoom(check, code);
    }

    /** Methods stay under sixty lines, and only constructors and constants make objects. */
    private static void lengthsAndRoom(Check check, String code) {
        String[] lines = code.split("\n", -1);
        Pattern head = Pattern.compile(
            "^( {4}| {8})(public |private )(static |final )*([\\w\\[\\]]+ )?(\\w+)\\(.*\\{$");
        for (int start = 0; start < lines.length; start++) {
            Matcher matcher = head.matcher(lines[start]);
            if (!matcher.find()) {
                continue;
            }
            int end = start + 1;
            while (!lines[end].equals(matcher.group(1) + "}")) {
                check.isTrue("a call makes an object: " + lines[end].trim(),
                    matcher.group(4) == null || !Pattern.compile("\\bnew\\b").matcher(lines[end]).find());
                end++;
            }
            check.isTrue(matcher.group(5) + " is long", end - start < 60);
        }
    }

    private static void members(Check check, Class<?> one) {
        int fields = 0;
        for (Field field : one.getDeclaredFields()) {
            if (!Modifier.isStatic(field.getModifiers())) {
                fields++;
                check.isTrue(field + " is private", Modifier.isPrivate(field.getModifiers()));
                continue;
            }
            check.isTrue(field + " is final", Modifier.isFinal(field.getModifiers()));
            check.isTrue(field + " is a constant", field.getType() == int.class || field.getType() == int[].class);
        }
        check.isTrue(one + " has at most twenty fields", fields <= 20);
        for (Method method : one.getDeclaredMethods()) {
            check.isTrue(method + " has at most seven parameters", method.getParameterCount() <= 7);
            check.isTrue(method + " is none of Object's",
                !Arrays.asList("equals", "hashCode", "toString", "clone", "finalize").contains(method.getName()));
        }
    }
}
