// The face of the class, and what ../shared/LANGUAGE.md rules out of its file.

import java.io.IOException;
import java.lang.reflect.Constructor;
import java.lang.reflect.Field;
import java.lang.reflect.Method;
import java.lang.reflect.Modifier;
import java.nio.file.Files;
import java.nio.file.Path;
import java.util.ArrayList;
import java.util.List;
import java.util.Map;
import java.util.Set;
import java.util.TreeMap;
import java.util.TreeSet;
import java.util.regex.Matcher;
import java.util.regex.Pattern;

public final class FaceAndLanguage {
    private static final String SOURCE = "src/main/java/TiltedCards.java";
    private static final String[] METHODS = {
        "colour(int,int,int)", "addView()", "removeView(int)", "swap(int,int)", "setPitch(int)", "slice(int,int)",
        "setShift(int)", "setLean(int)", "order()", "read()", "press(int)", "type(char)", "clearText()", "undo()",
        "keep()", "restore()", "colourOf(int,int)", "viewOf(int)", "behind(int,int,int)", "seen(int,int,int)",
        "at(int,int)", "view(int,int)", "bestOrder(int)", "bestShift()", "ifSlice(int,int)", "count(int)"};
    private static final String[] CONSTANTS = {"UNKNOWN", "BAD_VALUE", "FULL", "NOT_POSSIBLE", "NONE"};
    private static final String[] RULED_OUT = {
        "\\bthrows?\\b", "\\btry\\b", "\\bcatch\\b", "\\bfinally\\b", "\\bsynchronized\\b", "\\bassert\\b",
        "\\bimport\\b", "\\bpackage\\b", "->", "::", "\\bException\\b", "\\bError\\b", "Exact\\b", "\\bSystem\\b",
        "\\bThread\\b", "\\bprotected\\b", "\\bobject\\b", "\\bObject\\b", "\\bvar\\b", "\"", "\\bnative\\b",
        "\\bequals\\b", "\\bhashCode\\b", "\\btoString\\b", "\\bstatic\\s*\\{", "while\\s*\\(\\s*true",
        // what a constructor could be handed of an object that is not made yet
        "\\bnew [A-Z]\\w*\\([^)]", "(?<!\\.)\\bthis\\b(?!\\.)"};

    private static int wrong = 0;

    private static void ask(boolean right, String what) {
        if (!right) {
            wrong++;
            System.out.println("not as it must be: " + what);
        }
    }

    private static String shown(Method method) {
        StringBuilder s = new StringBuilder(method.getName()).append('(');
        for (Class<?> kind : method.getParameterTypes()) {
            s.append(s.charAt(s.length() - 1) == '(' ? "" : ",").append(kind.getSimpleName());
        }
        return s.append(')').toString();
    }

    private static void face() throws ReflectiveOperationException {
        Class<?> face = TiltedCards.class;
        int kind = face.getModifiers();
        ask(Modifier.isPublic(kind) && Modifier.isFinal(kind), "the class is public and final");
        Constructor<?>[] makers = face.getDeclaredConstructors();
        ask(makers.length == 1 && Modifier.isPublic(makers[0].getModifiers())
            && makers[0].getParameterCount() == 0, "one public constructor without parameters");
        Set<String> open = new TreeSet<>();
        for (Method method : face.getDeclaredMethods()) {
            if (Modifier.isPublic(method.getModifiers())) {
                open.add(shown(method));
                ask(method.getReturnType() == int.class, shown(method) + " answers an int");
                ask(!Modifier.isStatic(method.getModifiers()), shown(method) + " is not static");
            } else {
                ask(Modifier.isPrivate(method.getModifiers()), shown(method) + " is public or private");
            }
        }
        ask(open.equals(new TreeSet<>(Set.of(METHODS))), "the public methods are those of the document: " + open);
        Set<String> constants = new TreeSet<>();
        for (Field field : face.getDeclaredFields()) {
            if (Modifier.isPublic(field.getModifiers())) {
                constants.add(field.getName());
                ask(Modifier.isStatic(field.getModifiers()) && Modifier.isFinal(field.getModifiers())
                    && field.getType() == int.class, field.getName() + " is a constant");
            } else {
                ask(Modifier.isPrivate(field.getModifiers()), field.getName() + " is public or private");
            }
        }
        ask(constants.equals(new TreeSet<>(Set.of(CONSTANTS))), "the constants are those of the document");
        for (int i = 0; i < CONSTANTS.length; i++) {
            ask(face.getField(CONSTANTS[i]).getInt(null) == -101 - i, CONSTANTS[i] + " is " + (-101 - i));
        }
    }

    private static void classesInside() {
        Set<String> names = new TreeSet<>();
        for (String method : METHODS) {
            names.add(method.substring(0, method.indexOf('(')));
        }
        for (Method method : TiltedCards.class.getDeclaredMethods()) {
            ask(Modifier.isPublic(method.getModifiers()) || !names.contains(method.getName()),
                "the private method " + method.getName() + " bears another name than the public ones");
        }
        Class<?>[] inside = TiltedCards.class.getDeclaredClasses();
        ask(inside.length < 12, "at most twelve classes");
        for (Class<?> own : inside) {
            int kind = own.getModifiers();
            ask(Modifier.isStatic(kind) && !Modifier.isPublic(kind) && !Modifier.isProtected(kind),
                own.getName() + " is static, and private or package-visible");
            for (Method method : own.getDeclaredMethods()) {
                ask(!names.contains(method.getName()), own.getName() + "." + method.getName() + " has a name of its own");
            }
            fields(own);
        }
        fields(TiltedCards.class);
    }

    private static void fields(Class<?> own) {
        int held = 0;
        for (Field field : own.getDeclaredFields()) {
            if (Modifier.isStatic(field.getModifiers())) {
                ask(Modifier.isFinal(field.getModifiers()), field.getName() + " is final");
                // the class has no rows that are constants, so a static row would be one that calls change
                ask(field.getType().isPrimitive(), field.getName() + " is a number");
            } else {
                held++;
            }
        }
        ask(held <= 20, own.getName() + " has at most twenty fields");
    }

    private static String withoutComments(String source) {
        return source.replaceAll("(?s)/\\*.*?\\*/", " ").replaceAll("//[^\n]*", " ");
    }

    private static void words(String source) {
        String code = withoutComments(source);
        for (String pattern : RULED_OUT) {
            Matcher found = Pattern.compile(pattern).matcher(code);
            ask(!found.find(), SOURCE + " is without " + pattern);
        }
        for (int i = 0; i < source.length(); i++) {
            char c = source.charAt(i);
            if (c != '\n' && (c < ' ' || c > '~')) {
                ask(false, "the sign " + (int) c + " at " + i + " is a plain one");
            }
        }
    }

    // what stands ahead of a dot, or is a kind of things, is the class's own, or of the library that it may use
    private static void library(String source) {
        Set<String> known = new TreeSet<>(Set.of("TiltedCards", "Math.max", "Math.min"));
        for (Class<?> own : TiltedCards.class.getDeclaredClasses()) {
            known.add(own.getSimpleName());
        }
        Matcher found = Pattern.compile("\\b[A-Z]\\w*[a-z]\\w*(\\.\\w+)?").matcher(withoutComments(source));
        while (found.find()) {
            ask(known.contains(found.group()), found.group() + " is known");
        }
    }

    // the methods and constructors, each with its lines, by the places of the brackets
    private static Map<String, List<String>> methods(String source) {
        Map<String, List<String>> methods = new TreeMap<>();
        Pattern head = Pattern.compile("(    |        )(?:[\\w\\[\\]]+ )*(\\w+)\\(.*\\) \\{");
        String end = null;
        List<String> body = null;
        for (String line : withoutComments(source).split("\n")) {
            Matcher found = head.matcher(line);
            if (end == null && found.matches()) {
                end = found.group(1) + "}";
                body = new ArrayList<>();
                ask(methods.put(found.group(2), body) == null, found.group(2) + " is the name of one method");
            } else if (line.equals(end)) {
                end = null;
            } else if (end != null) {
                body.add(line);
            }
        }
        return methods;
    }

    private static void sizes(Map<String, List<String>> methods) {
        List<Class<?>> classes = new ArrayList<>(List.of(TiltedCards.class.getDeclaredClasses()));
        classes.add(TiltedCards.class);
        for (Class<?> own : classes) {
            for (Method method : own.getDeclaredMethods()) {
                ask(method.getParameterCount() <= 7, method.getName() + " takes at most seven parameters");
                ask(method.isSynthetic() || methods.containsKey(method.getName()), method.getName() + " is found");
            }
        }
        for (String name : methods.keySet()) {
            ask(methods.get(name).size() <= 60, name + " has at most sixty lines");
            int depth = depth(methods, name, 1);
            ask(depth <= 8, "calls of " + name + " go at most eight deep, not " + depth);
        }
    }

    // how many calls stand open at once at most; more than that if methods call one another
    private static int depth(Map<String, List<String>> methods, String name, int open) {
        int deepest = open;
        for (String line : methods.get(name)) {
            Matcher call = Pattern.compile("(\\w+)\\(").matcher(line);
            while (open <= 8 && call.find()) {
                if (methods.containsKey(call.group(1))) {
                    deepest = Math.max(deepest, depth(methods, call.group(1), open + 1));
                }
            }
        }
        return deepest;
    }

    public static void main(String[] args) throws ReflectiveOperationException, IOException {
        String source = Files.readString(Path.of(SOURCE));
        face();
        classesInside();
        words(source);
        library(source);
        sizes(methods(source));
        System.out.println(wrong == 0 ? "face and language are as they must be" : wrong + " rules are broken");
        if (wrong != 0) {
            System.exit(1);
        }
    }
}
