import java.io.IOException;
import java.lang.reflect.Constructor;
import java.lang.reflect.Field;
import java.lang.reflect.Method;
import java.lang.reflect.Modifier;
import java.nio.file.Files;
import java.nio.file.Path;
import java.util.Arrays;
import java.util.Set;
import java.util.TreeSet;
import java.util.regex.Matcher;
import java.util.regex.Pattern;
import java.util.stream.Collectors;

/** The public face of the document, nothing beside it, and what LANGUAGE.md rules out in the source. */
public final class FaceTest {
    private static final String FACE = "append(int,int,int,int,int):int truncate(int):int load():int errorCode():int "
            + "errorPosition():int count(int):int sample(int,int):long present(int):int neighbour(int,boolean):int "
            + "step(int,int):long valueAt(int):long integral():long drift():long mean(int):long plainMean():double "
            + "energy():long bits():int largest(int):int next():int setSplit(int):int setPredict(int):int "
            + "setUpdate(boolean):boolean set(int,int):long noise(int,int):long reset():int forward(int):int "
            + "lift(int):long inverse(int):int setDetail(int,int):long threshold(int,boolean):int quantize(int):long "
            + "keepLargest(int):long error(int):long errorWith(int,boolean):long bestThreshold(int):int "
            + "bitsBy(int,int):int bestScheme():int reason(int):int reasonSample():int save(int):void restore(int):void";
    private static final String[] RULED_OUT = {"->", "::", "\\bsynchronized\\b", "\\bassert\\b", "\\bfinally\\b",
        "\\bcatch\\b", "\\bstatic \\{", "\\bString\\.", "\\bSystem\\.(?!arraycopy)", "\\bMath\\.\\w+Exact", "\\bNaN\\b",
        "\\bhashCode\\b", "\\btoString\\b", "\\binstanceof\\b", "\\bThread\\b", "\\bwhile \\(true\\)", "\\bfor \\(;;",
        "\\bnull\\b", "[^\\x00-\\x7f]", "\"\\s*\\+", "\\+\\s*\""};

    public static void main(String[] args) throws IOException {
        face();
        members();
        source();
        Check.end();
    }

    private static void face() {
        Set<String> due = new TreeSet<>(Arrays.asList(FACE.split(" ")));
        Set<String> got = new TreeSet<>();
        for (Method method : LiftingSignal.class.getDeclaredMethods()) {
            if (Modifier.isPublic(method.getModifiers())) {
                String types = Arrays.stream(method.getParameterTypes()).map(Class::getName).collect(Collectors.joining(","));
                got.add(method.getName() + "(" + types + "):" + method.getReturnType().getName());
            }
        }
        Check.same("the public methods", got.toString(), due.toString());
        Check.same("the number of promised methods", due.size(), 41);
    }

    private static void members() {
        Check.same("the class is public and final", LiftingSignal.class.getModifiers(), Modifier.PUBLIC | Modifier.FINAL);
        Set<String> names = Arrays.stream(FACE.split(" ")).map(m -> m.substring(0, m.indexOf('('))).collect(Collectors.toSet());
        for (Method method : LiftingSignal.class.getDeclaredMethods()) {
            boolean isHidden = Modifier.isPrivate(method.getModifiers()) || method.isSynthetic();
            if (!Modifier.isPublic(method.getModifiers()) && (!isHidden || names.contains(method.getName()))) {
                Check.fail(method + " is neither of the face nor private under a name of its own");
            }
        }
        for (Field field : LiftingSignal.class.getDeclaredFields()) {
            if (!Modifier.isPrivate(field.getModifiers()) && !field.getName().equals("NONE")) {
                Check.fail(field + " is not private");
            }
        }
        for (Constructor<?> constructor : LiftingSignal.class.getDeclaredConstructors()) {
            Check.same("the constructor", constructor.getModifiers() + constructor.getParameterCount(), Modifier.PUBLIC);
        }
        for (Class<?> inside : LiftingSignal.class.getDeclaredClasses()) {
            if (!Modifier.isStatic(inside.getModifiers()) || Modifier.isPublic(inside.getModifiers())) {
                Check.fail(inside + " is public or not static");
            }
            for (Method method : inside.getDeclaredMethods()) {
                if (names.contains(method.getName())) {
                    Check.fail(method + " bears the name of a public one");
                }
            }
        }
    }

    private static void source() throws IOException {
        String source = Files.readString(Path.of("src/main/java/LiftingSignal.java"));
        String code = source.replaceAll("(?s)/\\*.*?\\*/|//[^\n]*", "");
        for (String pattern : RULED_OUT) {
            Matcher matcher = Pattern.compile(pattern).matcher(code);
            if (matcher.find()) {
                Check.fail("ruled out in the source: " + matcher.group());
            }
        }
        Matcher imports = Pattern.compile("import ([\\w.]+);").matcher(code);
        while (imports.find()) {
            Check.same("import", imports.group(1), "java.util.NoSuchElementException");
        }
    }
}
