import java.io.IOException;
import java.lang.reflect.Constructor;
import java.lang.reflect.Field;
import java.lang.reflect.Method;
import java.lang.reflect.Modifier;
import java.nio.file.Files;
import java.nio.file.Path;
import java.util.ArrayList;
import java.util.Arrays;
import java.util.List;
import java.util.Set;
import java.util.TreeSet;
import java.util.regex.Matcher;
import java.util.regex.Pattern;

/** The document's face, and the rules of LANGUAGE.md that can be seen in the class or in its source. */
public final class LanguageTest {
    private static final String[] FACE = {"feed 5", "end 1", "shop 0", "fault 1", "told 1", "tells 3", "piece 1", "height 2", "set 3", "change 0", "attempt 6", "cut 6",
        "passed 1", "left 3", "sure 4", "deepest 2", "best 1", "plan 2", "planned 1", "bestTeeth 4", "job 4", "order 2", "ordered 1", "until 6", "offer 4", "heard 3",
        "right 3", "fit 1", "next 0", "sound 0", "ringsOut 4", "forced 1", "count 1"};
    private static final String[] LIBRARY = {"java/lang/Integer.bitCount", "java/lang/Math.abs", "java/lang/Math.floorMod", "java/lang/Math.max", "java/lang/Math.min",
        "java/lang/String.charAt", "java/lang/String.indexOf", "java/lang/String.isEmpty", "java/lang/String.length", "java/lang/System.arraycopy", "java/util/Arrays.fill"};
    private static int wrong = 0;

    private static void look(boolean holds, String what) {
        if (!holds) {
            wrong++;
            System.out.println("not as LANGUAGE.md wants it: " + what);
        }
    }

    public static void main(String[] args) throws IOException {
        face();
        for (Class<?> inside : QuietCut.class.getDeclaredClasses()) {
            inside(inside);
        }
        look(QuietCut.class.getDeclaredClasses().length <= 12, "rule 11: some twelve classes");
        source(Files.readString(Path.of(args.length > 0 ? args[0] : "src/main/java/QuietCut.java")));
        System.out.println(wrong == 0 ? "the face and the language are as due" : wrong + " rules are not kept");
        if (wrong != 0) {
            System.exit(1);
        }
    }

    private static void face() {
        look(Modifier.isFinal(QuietCut.class.getModifiers()) && Modifier.isPublic(QuietCut.class.getModifiers()), "rule 1: public and final");
        Set<String> open = new TreeSet<>();
        Set<String> names = new TreeSet<>();
        for (Method m : QuietCut.class.getDeclaredMethods()) {
            if (Modifier.isPrivate(m.getModifiers())) {
                continue;
            }
            open.add(m.getName() + " " + m.getParameterCount());
            names.add(m.getName());
            look(Modifier.isPublic(m.getModifiers()) && !Modifier.isStatic(m.getModifiers()) && m.getReturnType() == int.class, "rule 1: " + m);
            look(Arrays.stream(m.getParameterTypes()).allMatch(t -> t == int.class), "rule 1: " + m);
        }
        look(open.equals(new TreeSet<>(Arrays.asList(FACE))), "rule 1: the methods are " + open);
        Set<String> constants = new TreeSet<>();
        for (Field f : QuietCut.class.getDeclaredFields()) {
            if (!Modifier.isPrivate(f.getModifiers())) {
                constants.add(f.getName());
            }
        }
        look(constants.equals(Set.of("NONE", "RANGE", "FULL", "STATE")), "rule 1: the constants are " + constants);
        look(QuietCut.class.getDeclaredConstructors().length == 1, "rule 1: one constructor");
        List<Class<?>> all = new ArrayList<>(Arrays.asList(QuietCut.class.getDeclaredClasses()));
        all.add(QuietCut.class);
        for (Class<?> c : all) {
            for (Method m : c.getDeclaredMethods()) {
                look(!Modifier.isPrivate(m.getModifiers()) || !names.contains(m.getName()), "rule 1: a private method bears a public name: " + m);
                look(m.getParameterCount() <= 7, "rule 11: parameters of " + m);
            }
            fields(c);
        }
    }

    private static void fields(Class<?> c) {
        int own = 0;
        for (Field f : c.getDeclaredFields()) {
            boolean still = Modifier.isStatic(f.getModifiers());
            own += still ? 0 : 1;
            look(!still || Modifier.isFinal(f.getModifiers()), "rule 5: " + f);
        }
        look(own <= 20, "rule 11: fields of " + c);
    }

    private static void inside(Class<?> c) {
        look(Modifier.isStatic(c.getModifiers()), "rule 2: " + c);
        look(!Modifier.isPublic(c.getModifiers()) && !Modifier.isProtected(c.getModifiers()), "rule 1: " + c);
        for (Constructor<?> k : c.getDeclaredConstructors()) {
            look(k.getParameterCount() <= 7, "rule 11: parameters of " + k);
        }
    }

    private static void source(String text) {
        String bare = text.replaceAll("(?s)/\\*.*?\\*/", " ").replaceAll("//[^\n]*", " ").replaceAll("\"[^\"\n]*\"", "\"\"").replaceAll("'.'", "' '");
        for (String word : new String[] {"throw", "throws", "try", "catch", "finally", "synchronized", "assert", "package", "double", "float", "native", "transient", "volatile", "Exact"}) {
            look(!Pattern.compile("\\b" + word + "\\b").matcher(bare).find(), "rules 3, 6: " + word);
        }
        look(!bare.contains("->") && !bare.contains("::"), "rule 2: lambdas and method references");
        look(!Pattern.compile("\"\"\\s*\\+|\\+\\s*\"\"").matcher(bare).find(), "rule 10: texts joined by +");
        Matcher imports = Pattern.compile("import ([^;]+);").matcher(bare);
        while (imports.find()) {
            look(imports.group(1).equals("java.util.Arrays"), "rule 4: import " + imports.group(1));
        }
        for (char c : text.toCharArray()) {
            look(c < 128 && c != '\t', "a sign beyond 127, or a tab");
        }
        Set<String> called = new TreeSet<>();
        Matcher calls = Pattern.compile("\\b(Math|Integer|Long|Arrays|System)\\.(\\w+)").matcher(bare);
        while (calls.find()) {
            called.add(calls.group(1) + "." + calls.group(2));
        }
        for (String call : called) {
            look(Arrays.stream(LIBRARY).anyMatch(known -> known.endsWith("/" + call)), "rule 4: " + call);
        }
        lengths(text.split("\n"));
    }

    /** A method starts at a line that ends in ") {" behind a type and ends at the brace of the same indent. */
    private static void lengths(String[] lines) {
        Pattern start = Pattern.compile("^( {4}| {8})(private |public |static |final )*[\\w\\[\\]]+( \\w+)?\\(.*\\) \\{$");
        for (int i = 0; i < lines.length; i++) {
            Matcher m = start.matcher(lines[i]);
            if (m.matches()) {
                int end = i;
                while (end < lines.length && !lines[end].equals(m.group(1) + "}")) {
                    end++;
                }
                look(end - i < 60, "rule 11: a method of " + (end - i + 1) + " lines at line " + (i + 1));
            }
            look(lines[i].length() <= 120, "a line of " + lines[i].length() + " signs at line " + (i + 1));
        }
    }
}
