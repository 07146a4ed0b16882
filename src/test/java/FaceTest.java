import java.io.IOException;
import java.lang.reflect.Constructor;
import java.lang.reflect.Field;
import java.lang.reflect.Method;
import java.lang.reflect.Modifier;
import java.nio.file.Files;
import java.nio.file.Path;
import java.util.ArrayList;
import java.util.Arrays;
import java.util.List;
import java.util.TreeSet;
import java.util.regex.Matcher;
import java.util.regex.Pattern;

/** The face of the class, and those rules of LANGUAGE.md that can be seen from its text. */
public final class FaceTest {
    private static final String FACE = "feed(int)int treaty()int person(int,int,int)int of(int,int)int "
        + "row(int,int,int)int set(int,int,int)int salt(int,int)int roof(int,boolean)int told(int)int pass(int)int "
        + "on(int,int)int lasts()int hollow()int thinnest(int,int)int greediest(int)int forgive()int move(int)int "
        + "roofs()int share(int,int,int)long angry(int)int held(int)int worst(int,int)int watch(int,int)int "
        + "fill(int,int)int see(int,int,int)int who()int firm(int,int)int where(int)int odds(int,int)long "
        + "mean(int,int)long chips(int)int plan(int,int)int done(int)int book(int,int)int looked()int "
        + "act(int,int,int)int trace(int)int as(int,int)int image()int undo()int count(int)int";
    private static final String[] FORBIDDEN = {"throw", "throws", "try", "catch", "finally", "synchronized", "assert",
        "native", "volatile", "transient", "var", "equals", "hashCode", "toString", "Object", "System.out", "Random",
        "Thread", "currentTimeMillis", "nanoTime", "default void", "->", "::", "@", "enum", "record", "yield"};

    private static int wrong = 0;

    public static void main(String[] args) throws IOException {
        publicFace();
        noMore();
        inside();
        String source = Files.readString(Path.of(System.getProperty("source", "src/main/java/SaltPeace.java")));
        asInTheDocument(source, Files.readString(Path.of(System.getProperty("document", "../shared/DOC.md"))));
        text(source);
        System.out.println("FaceTest: " + wrong + " wrong");
        if (wrong != 0) {
            System.exit(1);
        }
    }

    private static void holds(boolean is, String what) {
        if (!is) {
            wrong++;
            System.out.println("not so: " + what);
        }
    }

    private static String told(Method method) {
        List<String> types = new ArrayList<>();
        for (Class<?> type : method.getParameterTypes()) {
            types.add(type.getName());
        }
        return method.getName() + "(" + String.join(",", types) + ")" + method.getReturnType().getName();
    }

    private static void publicFace() {
        TreeSet<String> is = new TreeSet<>();
        for (Method method : SaltPeace.class.getDeclaredMethods()) {
            if (Modifier.isPublic(method.getModifiers())) {
                is.add(told(method));
                holds(!Modifier.isStatic(method.getModifiers()), method + " belongs to an object");
            }
        }
        holds(is.equals(new TreeSet<>(Arrays.asList(FACE.split(" ")))), "the public methods are those of the document");
        holds(Modifier.isFinal(SaltPeace.class.getModifiers()), "the class is final");
        Constructor<?>[] made = SaltPeace.class.getDeclaredConstructors();
        holds(made.length == 1 && made[0].getParameterCount() == 0 && Modifier.isPublic(made[0].getModifiers()),
            "one public constructor without parameters");
    }

    /** Each line of the document's face stands in the text, in the document's order and with its names. */
    private static void asInTheDocument(String source, String document) {
        int begin = document.indexOf("public final class SaltPeace {");
        int end = document.indexOf("\n}", Math.max(0, begin));
        holds(begin >= 0 && end > begin, "the document has a face");
        if (begin < 0 || end <= begin) {
            return;
        }
        int from = 0;
        int lines = 0;
        for (String line : document.substring(begin, end).split("\n")) {
            boolean isBody = line.endsWith(");");
            String due = isBody ? line.substring(0, line.length() - 1) + " {" : line;
            int at = source.indexOf("\n" + due + "\n", from);
            holds(at >= 0, "the text has, in its place, " + due.trim());
            from = at >= 0 ? at + due.length() : from;
            lines += isBody ? 1 : 0;
        }
        holds(lines == FACE.split(" ").length + 1, "the document's face has as many bodies as are looked for here");
    }

    private static void noMore() {
        TreeSet<String> constants = new TreeSet<>();
        for (Field field : SaltPeace.class.getDeclaredFields()) {
            if (Modifier.isPublic(field.getModifiers())) {
                constants.add(field.getName() + " " + field.getType());
            } else {
                holds(Modifier.isPrivate(field.getModifiers()), field + " is private");
            }
        }
        holds(constants.equals(new TreeSet<>(List.of("NONE int", "BAD int", "STATE int", "FULL int", "NO long"))),
            "the public constants are those of the document");
        TreeSet<String> publicNames = new TreeSet<>();
        for (String method : FACE.split(" ")) {
            publicNames.add(method.substring(0, method.indexOf('(')));
        }
        for (Method method : SaltPeace.class.getDeclaredMethods()) {
            if (!Modifier.isPublic(method.getModifiers())) {
                holds(Modifier.isPrivate(method.getModifiers()), method + " is private");
                holds(!publicNames.contains(method.getName()), method + " has a name of its own");
            }
        }
    }

    private static void inside() {
        Class<?>[] inside = SaltPeace.class.getDeclaredClasses();
        holds(inside.length + 1 <= 12, "twelve classes at most");
        for (Class<?> one : inside) {
            holds(Modifier.isStatic(one.getModifiers()), one + " is static");
            holds(!Modifier.isPublic(one.getModifiers()) && !Modifier.isProtected(one.getModifiers()), one + " is not seen");
            fields(one);
        }
        fields(SaltPeace.class);
    }

    private static void fields(Class<?> one) {
        int own = 0;
        for (Field field : one.getDeclaredFields()) {
            boolean isStatic = Modifier.isStatic(field.getModifiers());
            own += isStatic ? 0 : 1;
            holds(!isStatic || Modifier.isFinal(field.getModifiers()), field + " is final");
            holds(!isStatic || field.getType().isPrimitive() || field.getType() == String.class, field + " is a constant");
        }
        holds(own <= 20, one + " has twenty fields at most");
        for (Method method : one.getDeclaredMethods()) {
            holds(method.getParameterCount() <= 7, method + " has seven parameters at most");
        }
    }

    private static void text(String source) {
        for (int i = 0; i < source.length(); i++) {
            holds(source.charAt(i) < 128, "sign " + i + " of the text is below 128");
        }
        String code = source.replaceAll("(?s)/\\*.*?\\*/", "").replaceAll("//[^\n]*", "").replaceAll("\"[^\"]*\"", "\"\"");
        for (String word : FORBIDDEN) {
            String edge = Character.isLetter(word.charAt(0)) ? "\\b" : "";
            holds(!Pattern.compile(edge + Pattern.quote(word) + edge).matcher(code).find(), "no " + word + " in the text");
        }
        holds(!code.contains("\" +") && !code.contains("+ \""), "no texts joined by +");
        holds(code.replaceAll("(?m)^import java\\.util\\.Arrays;$", "").indexOf("import ") < 0, "no import but Arrays");
        holds(!Pattern.compile("(?m)^package ").matcher(code).find(), "no package");
        holds(!Pattern.compile("\\bstatic\\s*\\{").matcher(code).find(), "no static initialiser");
        holds(!Pattern.compile("\\b(while|do)\\b").matcher(code).find(), "no loop without a counter");
        Matcher calls = Pattern.compile("\\b(Arrays|System|Math|Integer|Long)\\.(\\w+)").matcher(code);
        List<String> allowed = List.of("Arrays.copyOf", "Arrays.fill", "System.arraycopy", "Math.min", "Math.max",
            "Integer.bitCount", "Long.MIN_VALUE");
        for (boolean found = calls.find(); found; found = calls.find()) {
            holds(allowed.contains(calls.group()), calls.group() + " stands in the library");
        }
        methodsAreShort(code);
    }

    private static void methodsAreShort(String code) {
        int begun = 0;
        String[] lines = code.split("\n");
        String end = null;
        for (int i = 0; i < lines.length; i++) {
            String line = lines[i];
            if (line.matches(" +[\\w\\[\\]<> ]+\\(.*\\) \\{") && !line.matches(" +(for|if|switch|while|else|return)\\b.*")) {
                begun = i;
                end = line.substring(0, line.length() - line.stripLeading().length()) + "}";
            }
            if (line.equals(end)) {
                holds(i - begun < 60, "the method at line " + begun + " is short");
            }
        }
    }
}
