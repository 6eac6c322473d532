import java.io.IOException;
import java.lang.reflect.Constructor;
import java.lang.reflect.Field;
import java.lang.reflect.Method;
import java.lang.reflect.Modifier;
import java.nio.file.Files;
import java.nio.file.Path;
import java.util.ArrayList;
import java.util.Arrays;
import java.util.HashSet;
import java.util.List;
import java.util.Set;
import java.util.TreeSet;
import java.util.regex.Matcher;
import java.util.regex.Pattern;

/** The rules of LANGUAGE.md that can be seen from the source or from the compiled class. */
public final class LanguageTest {
    private static final String[] FACE = {
        "boolean road(int)", "int row(int,int)", "boolean old(int,int,int)", "int feed(int,int,int,int,int)",
        "int law(int)", "boolean party(int,boolean,int)", "boolean car(int,int,int)", "boolean cones(int)",
        "boolean dew(int)", "int burns(int,int)", "int minutes(int)", "int tried(int,int)", "int dot(int,int)",
        "int smooth(int,int)", "int apart(int,int)", "int seen(int,int,int)", "int marked(int,int)",
        "int markings(int,int,int)", "int joins(int,int,int)", "int begins(int,int)", "int latest(int)",
        "int dewOdds(int,int,int,int)", "int meet(int,int,int)", "int pinned(int,int)", "int lights(int,int,int)",
        "int believed(int,boolean)", "int lost(int,boolean)", "int burnFirst(int,int,boolean,int)",
        "int cut(int,int,int)", "int renewed(int,int,int)", "int who(int)", "int keep()", "boolean undo()",
        "int check(int)", "int count(int)"};

    public static void main(String[] args) throws IOException {
        face();
        classes();
        String source = Files.readString(Path.of(System.getProperty("whiteline.source")));
        words(withoutComments(source));
        methods(withoutComments(source));
        Due.end("LanguageTest");
    }

    private static String signature(Method m) {
        StringBuilder text = new StringBuilder(m.getReturnType() + " " + m.getName() + "(");
        for (Class<?> type : m.getParameterTypes()) {
            text.append(text.charAt(text.length() - 1) == '(' ? "" : ",").append(type);
        }
        return text + ")";
    }

    private static void face() {
        Class<?> face = WhiteLine.class;
        Due.is("final", true, Modifier.isFinal(face.getModifiers()) && Modifier.isPublic(face.getModifiers()));
        Set<String> due = new TreeSet<>(Arrays.asList(FACE));
        Set<String> is = new TreeSet<>();
        for (Method m : face.getDeclaredMethods()) {
            if (!Modifier.isPrivate(m.getModifiers())) {
                is.add(signature(m));
            }
        }
        System.out.println("not in the face: " + minus(is, due) + ", not in the class: " + minus(due, is));
        Due.is("the face", true, is.equals(due));
        for (Field f : face.getDeclaredFields()) {
            boolean isNone = f.getName().equals("NONE") && Modifier.isPublic(f.getModifiers());
            Due.is("field " + f.getName(), true, isNone || Modifier.isPrivate(f.getModifiers()));
        }
        Constructor<?>[] made = face.getDeclaredConstructors();
        Due.is("constructors", 1, made.length);
        Due.is("NONE", -1, WhiteLine.NONE);
    }

    private static Set<String> minus(Set<String> a, Set<String> b) {
        Set<String> rest = new TreeSet<>(a);
        rest.removeAll(b);
        return rest;
    }

    private static void classes() {
        Set<String> names = new HashSet<>();
        for (String one : FACE) {
            names.add(one.substring(one.indexOf(' ') + 1, one.indexOf('(')));
        }
        List<Class<?>> all = new ArrayList<>(List.of(WhiteLine.class.getDeclaredClasses()));
        Due.is("classes", true, all.size() + 1 <= 12);
        all.add(WhiteLine.class);
        for (Class<?> one : all) {
            Due.is("static " + one, true, one == WhiteLine.class || Modifier.isStatic(one.getModifiers()));
            int fields = 0;
            for (Field f : one.getDeclaredFields()) {
                boolean isStatic = Modifier.isStatic(f.getModifiers());
                Due.is("static and final " + f, true, !isStatic || Modifier.isFinal(f.getModifiers()));
                fields += isStatic ? 0 : 1;
            }
            Due.is("fields of " + one + ": " + fields, true, fields <= 20);
            for (Method m : one.getDeclaredMethods()) {
                Due.is("parameters of " + m, true, m.getParameterCount() <= 7);
                boolean isFace = one == WhiteLine.class && Modifier.isPublic(m.getModifiers());
                Due.is("name of " + m, true, isFace || !names.contains(m.getName()));
            }
        }
    }

    private static String withoutComments(String source) {
        return source.replaceAll("(?s)/\\*.*?\\*/", "").replaceAll("//[^\n]*", "");
    }

    private static void words(String code) {
        String[] banned = {"\\bthrow\\b", "\\bthrows\\b", "\\btry\\b", "\\bcatch\\b", "\\bsynchronized\\b",
            "\\bassert\\b", "->", "::", "\\bpackage\\b", "\\bimport\\b", "\\bprotected\\b", "\\bvolatile\\b",
            "\\btransient\\b", "\\bnative\\b", "\\bstatic\\s*\\{", "\\bvar\\b", "Exact\\b", "\\bdouble\\b",
            "\\bfloat\\b", "\\bString\\b", "\\bObject\\b", "\\bhashCode\\b", "\\bequals\\b", "\\btoString\\b",
            "\\bwhile\\b", "\""};
        for (String one : banned) {
            Matcher found = Pattern.compile(one).matcher(code);
            Due.is("no " + one, false, found.find());
        }
        Matcher system = Pattern.compile("\\bSystem\\.(\\w+)").matcher(code);
        while (system.find()) {
            Due.is("System." + system.group(1), true, system.group(1).equals("arraycopy"));
        }
        Matcher math = Pattern.compile("\\bMath\\.(\\w+)").matcher(code);
        while (math.find()) {
            Due.is("Math." + math.group(1), true, List.of("abs", "max", "min", "floorMod").contains(math.group(1)));
        }
        for (char c : code.toCharArray()) {
            if (c > 127) {
                Due.is("a sign above 127", 0, c);
            }
        }
    }

    /** Methods stay short; what is made is made once, where a field begins. */
    private static void methods(String code) {
        String[] lines = code.split("\n", -1);
        int start = -1;
        String indent = "";
        for (int k = 0; k < lines.length; k++) {
            Matcher opens = Pattern.compile("^( {4}| {8})(\\w.*\\) \\{)$").matcher(lines[k]);
            boolean isMethod = opens.find() && !opens.group(2).matches("(if|for|switch|else).*");
            if (start < 0 && isMethod) {
                start = k;
                indent = opens.group(1);
            } else if (start >= 0 && lines[k].equals(indent + "}")) {
                Due.is("lines of " + lines[start].trim() + ": " + (k - start + 1), true, k - start + 1 <= 60);
                start = -1;
            } else if (start >= 0) {
                Due.is("made in a method: " + lines[k].trim(), false, lines[k].matches(".*\\bnew\\b.*"));
            }
        }
    }
}
