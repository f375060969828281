import java.io.IOException;
import java.lang.reflect.Field;
import java.lang.reflect.Method;
import java.lang.reflect.Modifier;
import java.nio.file.Files;
import java.nio.file.Path;
import java.util.ArrayList;
import java.util.HashSet;
import java.util.List;
import java.util.Set;
import java.util.regex.Matcher;
import java.util.regex.Pattern;

/** What can be seen of ../shared/LANGUAGE.md in the program's text and in its members. */
public final class LanguageTest {
    private static final Path PROGRAM = Path.of("src/main/java/Bandwidthclub.java");
    private static final int MOST_LINES = 60;
    private static final int MOST_CLASSES = 12;
    private static final int MOST_FIELDS = 20;
    private static final int MOST_PARAMETERS = 7;

    // Each with the number of the rule that has no place for it.
    private static final String[][] OUTSIDE = {
        {"1", "^package "},
        {"1", "\\bprotected\\b"},
        {"2", "^(?!\\s*(case\\b.*|default) ->).*->"},
        {"2", "::"},
        {"3", "\\b(Object|Long|Short|Byte|Character|Boolean|Double|Float) [a-z]"},
        {"4", "\\w+Exact\\b"},
        {"4", "\\bSystem\\.(?!arraycopy)"},
        {"4", "\\bArrays\\.(?!copyOf|copyOfRange|fill)"},
        {"4", "\\bString\\.\\w"},
        {"4", "^(?!import ).*\\bjava\\."},
        {"5", "\\bstatic \\{"},
        {"6", "\\b(finally|synchronized|assert|getMessage|hashCode)\\b"},
        {"6", "\\btry \\("},
        {"6", "\\bextends \\w*Exception"},
        {"6", "\\bcatch \\((?!(IllegalState|IllegalArgument|IndexOutOfBounds|Arithmetic"
            + "|UnsupportedOperation|NoSuchElement)Exception\\b)"},
        {"6", "\\bthrow (?!new (IllegalState|IllegalArgument|IndexOutOfBounds|Arithmetic"
            + "|UnsupportedOperation|NoSuchElement|Runtime)Exception\\(\\s*(\"\")?\\s*\\);)"},
        {"10", "\"\" \\+|\\+=? \"\""},
        {"13", "\\b(Math\\.random|Thread|Runtime|Process)\\b"},
    };

    // The throws clause may stand on a line of its own; a constructor has one word alone.
    private static final Pattern METHOD = Pattern.compile("( {4}| {8})"
            + "(?!(return|throw|else|if|for|while|switch|try)\\b)(?!.*\\b(class|enum|interface|record) )"
            + "(([\\w<>\\[\\]]+ )+\\w+\\([^;=]*|\\w+\\(.*\\{)");

    public static void main(String[] args) throws IOException {
        String code = withoutCommentsAndTexts(Files.readString(PROGRAM));
        imports(code);
        for (String[] outside : OUTSIDE) {
            Matcher found = Pattern.compile(outside[1], Pattern.MULTILINE).matcher(code);
            while (found.find()) {
                Check.fail("rule " + outside[0] + " has no place for: " + lineAt(code, found.start()));
            }
        }
        methodLengths(code);
        List<Class<?>> classes = new ArrayList<>();
        gather(Bandwidthclub.class, classes);
        Check.is("rule 11, classes", classes.size() <= MOST_CLASSES, true);
        for (Class<?> each : classes) {
            fields(each);
            methods(each);
            Check.is("rule 1, a class inside is seen from outside: " + each.getName(),
                    each != Bandwidthclub.class && isSeenOutside(each.getModifiers()), false);
        }
        Check.end();
    }

    /** Texts are emptied, so that what they say is not taken for code. */
    private static String withoutCommentsAndTexts(String text) {
        return text.replaceAll("\"(\\\\.|[^\"\\\\\n])*\"", "\"\"")
                .replaceAll("(?s)/\\*.*?\\*/", "").replaceAll("//[^\n]*", "");
    }

    private static String lineAt(String code, int at) {
        int end = code.indexOf('\n', at);
        return code.substring(code.lastIndexOf('\n', at) + 1, end < 0 ? code.length() : end).trim();
    }

    private static void imports(String code) {
        Matcher found = Pattern.compile("^import (.*);", Pattern.MULTILINE).matcher(code);
        while (found.find()) {
            Check.is("rule 4, import " + found.group(1), found.group(1).matches(
                    "java\\.util\\.(ArrayList|List|Arrays|Iterator|NoSuchElementException)"), true);
        }
    }

    private static void methodLengths(String code) {
        String[] lines = code.split("\n");
        for (int begin = 0; begin < lines.length; begin++) {
            Matcher head = METHOD.matcher(lines[begin]);
            if (head.matches()) {
                int end = begin;
                while (end < lines.length && !lines[end].equals(head.group(1) + "}")) {
                    end++;
                }
                Check.is("rule 11, lines of " + lines[begin].trim(), end - begin < MOST_LINES, true);
            }
        }
    }

    private static void gather(Class<?> each, List<Class<?>> classes) {
        classes.add(each);
        for (Class<?> inside : each.getDeclaredClasses()) {
            gather(inside, classes);
        }
    }

    private static boolean isSeenOutside(int modifiers) {
        return Modifier.isPublic(modifiers) || Modifier.isProtected(modifiers);
    }

    private static void fields(Class<?> each) {
        int own = 0;
        for (Field field : each.getDeclaredFields()) {
            if (!Modifier.isStatic(field.getModifiers())) {
                own++;
            } else {
                Check.is("rule 5, static " + field + " is final",
                        Modifier.isFinal(field.getModifiers()), true);
            }
        }
        Check.is("rule 11, fields of " + each.getName(), own <= MOST_FIELDS, true);
    }

    private static void methods(Class<?> each) {
        Set<String> ofTheFace = new HashSet<>();
        for (Method method : Bandwidthclub.class.getMethods()) {
            ofTheFace.add(method.getName());
        }
        for (Method method : each.getDeclaredMethods()) {
            Check.is("rule 11, parameters of " + method,
                    method.getParameterCount() <= MOST_PARAMETERS, true);
            Check.is("rule 1, the name of " + method, Modifier.isPrivate(method.getModifiers())
                    && ofTheFace.contains(method.getName()), false);
        }
    }
}
