import java.lang.reflect.Constructor;
import java.lang.reflect.Field;
import java.lang.reflect.Method;
import java.lang.reflect.Modifier;
import java.nio.charset.StandardCharsets;
import java.nio.file.Files;
import java.nio.file.Path;
import java.util.ArrayList;
import java.util.Arrays;
import java.util.List;
import java.util.TreeSet;
import java.util.regex.Matcher;
import java.util.regex.Pattern;

/** The face that the document lists, and the rules of LANGUAGE.md that can be seen in the lines of the class. */
public final class LanguageTest {
    private static final String FACE = "load/3 told/2 as/2 turns/2 set/3 boat/1 rule/2 pull/1 loading/0 deal/1 seed/1 "
        + "steps/1 book/1 high/0 best/1 behind/2 slant/2 patience/2 left/2 allOver/0 slanted/2 fine/0 feed/3 trim/1 "
        + "text/0 textTold/2 why/1 sheet/3 mark/3 pour/1 reads/1 copy/5 lay/3 ask/2 item/2 rest/2 tell/1 check/1 "
        + "keep/0 back/0 count/1";
    private static final String CONSTANTS = "BAD=-1000000001 NO=-1000000002 FULL=-1000000003 NONE=-1000000005 "
        + "NOTHING=-1000000011 KIND=-1000000012 INDEX=-1000000013 SIZE=-1000000014";

    public static void main(String[] args) throws Exception {
        theFace();
        classesInside();
        staticFields();
        String root = args.length > 0 ? args[0] : ".";
        Path file = Path.of(root, "src", "main", "java", "RopeFerry.java");
        String source = Files.readString(file, StandardCharsets.ISO_8859_1);
        signs(source);
        words(bare(source));
        lengths(bare(source));
        Due.end();
    }

    private static void theFace() throws Exception {
        TreeSet<String> face = new TreeSet<>();
        TreeSet<String> hidden = new TreeSet<>();
        for (Method m : RopeFerry.class.getDeclaredMethods()) {
            if (Modifier.isPrivate(m.getModifiers())) {
                hidden.add(m.getName());
                continue;
            }
            face.add(m.getName() + "/" + m.getParameterCount());
            Due.holds(m + " is public and of the object", m.getModifiers() == Modifier.PUBLIC);
            Due.holds(m + " answers an int", m.getReturnType() == int.class);
            for (Class<?> type : m.getParameterTypes()) {
                Due.holds(m + " takes ints", type == int.class);
            }
        }
        Due.holds("the methods are " + face, face.equals(new TreeSet<>(Arrays.asList(FACE.split(" ")))));
        for (String name : hidden) {
            Due.holds("private " + name + " bears no public name", !(" " + FACE).contains(" " + name + "/"));
        }
        TreeSet<String> constants = new TreeSet<>();
        for (Field f : RopeFerry.class.getDeclaredFields()) {
            if (!Modifier.isPrivate(f.getModifiers())) {
                constants.add(f.getName() + "=" + f.get(null));
            }
        }
        Due.holds("the constants are " + constants, constants.equals(new TreeSet<>(Arrays.asList(CONSTANTS.split(" ")))));
        Constructor<?>[] makers = RopeFerry.class.getDeclaredConstructors();
        Due.be("one constructor", makers.length, 1);
        Due.be("it takes nothing", makers[0].getParameterCount(), 0);
        Due.be("public and final", RopeFerry.class.getModifiers(), Modifier.PUBLIC | Modifier.FINAL);
    }

    private static List<Class<?>> all() {
        List<Class<?>> all = new ArrayList<>(List.of(RopeFerry.class.getDeclaredClasses()));
        all.add(RopeFerry.class);
        return all;
    }

    private static void classesInside() {
        Due.holds("1 to 12 classes", all().size() <= 12);
        for (Class<?> c : RopeFerry.class.getDeclaredClasses()) {
            Due.holds(c + " is static", Modifier.isStatic(c.getModifiers()));
            Due.holds(c + " is not seen outside", !Modifier.isPublic(c.getModifiers()) && !Modifier.isProtected(c.getModifiers()));
        }
    }

    private static void staticFields() {
        List<String> types = List.of("int", "long", "boolean", "char", "class java.lang.String", "class [I", "class [J",
            "class [C", "class [B");
        for (Class<?> c : all()) {
            int own = 0;
            for (Field f : c.getDeclaredFields()) {
                if (Modifier.isStatic(f.getModifiers())) {
                    // Rule 12 lets values() of an enum be kept in an array.
                    boolean isOfEnum = f.isEnumConstant() || f.getType().isArray() && f.getType().getComponentType().isEnum();
                    boolean plain = types.contains(f.getType().toString()) || isOfEnum;
                    Due.holds(f + " is final", Modifier.isFinal(f.getModifiers()));
                    Due.holds(f + " is of a type that rule 5 lists", plain);
                } else {
                    own++;
                }
            }
            Due.holds(c + " has some twenty fields at most", own <= 24);
            for (Method m : c.getDeclaredMethods()) {
                Due.holds(m + " takes seven at most", m.getParameterCount() <= 7);
            }
        }
    }

    private static void signs(String source) {
        boolean plain = true;
        for (char c : source.toCharArray()) {
            plain &= c == '\n' || c >= 32 && c < 127;
        }
        Due.holds("signs of the file are plain", plain);
        Due.holds("no package", !source.startsWith("package ") && !source.contains("\npackage "));
        Matcher imports = Pattern.compile("(?m)^import +(.*);").matcher(source);
        while (imports.find()) {
            Due.holds("the library lists " + imports.group(1),
                imports.group(1).matches("java\\.util\\.(Arrays|ArrayList|List|Iterator|\\*)"));
        }
    }

    /** The lines without comments, and without what stands in quotes. */
    private static String bare(String source) {
        return source.replaceAll("(?s)/\\*.*?\\*/", "").replaceAll("//[^\n]*", "").replaceAll("\"[^\"\n]*\"", "\"\"")
            .replaceAll("'[^'\n]'", "'x'");
    }

    private static void words(String source) {
        for (String word : "throw throws try catch finally synchronized assert package native volatile transient "
            .concat("hashCode strictfp Thread Object Random").split(" ")) {
            Due.holds("no " + word, !Pattern.compile("\\b" + word + "\\b").matcher(source).find());
        }
        Due.holds("no lambda", !Pattern.compile("(?m)^(?!.*\\b(case|default)\\b).*->").matcher(source).find());
        Due.holds("no method reference", !source.contains("::"));
        Due.holds("nothing ends in Exact", !source.contains("Exact("));
        Matcher calls = Pattern.compile("\\b(Arrays|List|System|Character|String|Objects|Collections|Boolean|Double|Float)"
            + "\\.([a-z][A-Za-z]*)\\(").matcher(source);
        List<String> library = List.of("System.arraycopy", "Arrays.copyOf", "Arrays.copyOfRange", "Arrays.fill", "List.of");
        while (calls.find()) {
            String call = calls.group(1) + "." + calls.group(2);
            Due.holds("the library lists " + call, library.contains(call));
        }
    }

    /** Some sixty lines a method: from the line that opens it to the one that closes it. */
    private static void lengths(String source) {
        int since = 0;
        int at = 0;
        for (String line : source.split("\n")) {
            at++;
            if (line.matches(" +(public|private|static|int|void|boolean|[A-Z][A-Za-z]*).*\\) \\{")) {
                since = at;
            }
            if (line.matches(" {2,8}\\}")) {
                Due.holds("the method that ends at line " + at + " is short", at - since <= 70 || since == 0);
            }
        }
    }
}
