import java.lang.reflect.Constructor;
import java.lang.reflect.Field;
import java.lang.reflect.Method;
import java.lang.reflect.Modifier;
import java.nio.charset.StandardCharsets;
import java.nio.file.Files;
import java.nio.file.Path;
import java.util.Arrays;
import java.util.TreeSet;
import java.util.regex.Pattern;

/** The public face, and those rules of LANGUAGE.md that can be read off the class or its text. */
public final class FaceTest {
    private static final String[] FACE = {
        "int layer(int,int) IAE ISE", "int weight(int,int,int,int) IOOBE IAE", "int shift(int,int) IOOBE IAE",
        "int next(int,int) IOOBE IAE", "int place(int,int) IOOBE ISE", "int load(int) IOOBE ISE",
        "int lift(int) IOOBE ISE", "void stick(int,int,int,int) IOOBE IAE ISE", "int spoil(int,int,int) IOOBE IAE",
        "int drift(int) IAE", "int endurance(int) IAE", "int pass(int) IAE ISE", "int converter(int,int,int) IOOBE IAE",
        "int offset(int,int,int) IOOBE IAE", "boolean calibrate(int,boolean) IOOBE", "int converters(int,int) IOOBE IAE",
        "int cell(int,int,int,int) IOOBE", "int rowOf(int,int) IOOBE", "int tileOf(int) IOOBE",
        "int misfits(int,int) IOOBE", "int misfitsAnew(int,int) IOOBE ISE", "boolean isTrue(int) IOOBE",
        "int answer(int,long,int) IOOBE ISE", "int ideal(int,long,int) IOOBE", "int bound(int,int,boolean) IOOBE ISE",
        "long run(int,long) IOOBE ISE", "long runIdeal(int,long) IOOBE", "int cycles(int,int) IOOBE IAE ISE",
        "int cyclesAnew(int,int) IOOBE IAE ISE", "long wear(int) IOOBE", "float share(int) IOOBE", "int hour()"
    };

    public static void main(String[] args) throws Exception {
        calls();
        constantsAndConstructor();
        noOtherMember(Crossbarry.class);
        noPrivateMethodWithAPublicName(Crossbarry.class);
        for (Class<?> inside : Crossbarry.class.getDeclaredClasses()) {
            boolean isHidden = !Modifier.isPublic(inside.getModifiers()) && !Modifier.isProtected(inside.getModifiers());
            Check.due("hidden and static " + inside, isHidden && Modifier.isStatic(inside.getModifiers()), true);
            noPrivateMethodWithAPublicName(inside);
        }
        text();
        Check.finish();
    }

    private static void calls() {
        TreeSet<String> due = new TreeSet<>(Arrays.asList(FACE));
        TreeSet<String> got = new TreeSet<>();
        for (Method method : Crossbarry.class.getDeclaredMethods()) {
            if (Modifier.isPublic(method.getModifiers())) {
                got.add(described(method));
                Check.due("not static " + method, Modifier.isStatic(method.getModifiers()), false);
            }
        }
        Check.due("the calls", got.toString(), due.toString());
    }

    private static String described(Method method) {
        StringBuilder text = new StringBuilder();
        text.append(method.getReturnType().getName()).append(' ').append(method.getName()).append('(');
        String between = "";
        for (Class<?> type : method.getParameterTypes()) {
            text.append(between).append(type.getName());
            between = ",";
        }
        text.append(')');
        for (Class<?> thrown : method.getExceptionTypes()) {
            text.append(' ').append(thrown.getSimpleName().replaceAll("[a-z]", ""));
        }
        return text.toString();
    }

    private static void constantsAndConstructor() throws Exception {
        Check.due("final", Modifier.isFinal(Crossbarry.class.getModifiers()), true);
        Check.due("public", Modifier.isPublic(Crossbarry.class.getModifiers()), true);
        Constructor<?>[] made = Crossbarry.class.getDeclaredConstructors();
        Check.due("one constructor", made.length, 1);
        Check.due("public", Modifier.isPublic(made[0].getModifiers()) && made[0].getParameterCount() == 0, true);
        Field none = Crossbarry.class.getDeclaredField("NONE");
        Check.due("NONE", none.getModifiers(), Modifier.PUBLIC | Modifier.STATIC | Modifier.FINAL);
        Check.due("NONE", none.getInt(null), -1);
    }

    /** Rule 1. */
    private static void noOtherMember(Class<?> owner) {
        for (Field field : owner.getDeclaredFields()) {
            boolean isHidden = Modifier.isPrivate(field.getModifiers()) || field.getName().equals("NONE");
            Check.due("private " + field, isHidden, true);
        }
        for (Method method : owner.getDeclaredMethods()) {
            boolean isFine = Modifier.isPrivate(method.getModifiers()) || Modifier.isPublic(method.getModifiers());
            Check.due("private or public " + method, isFine || method.isSynthetic(), true);
        }
    }

    private static void noPrivateMethodWithAPublicName(Class<?> owner) {
        TreeSet<String> names = new TreeSet<>();
        for (Method method : Crossbarry.class.getDeclaredMethods()) {
            if (Modifier.isPublic(method.getModifiers())) {
                names.add(method.getName());
            }
        }
        for (Method method : owner.getDeclaredMethods()) {
            boolean isFace = owner == Crossbarry.class && Modifier.isPublic(method.getModifiers());
            Check.due("name " + method, isFace || !names.contains(method.getName()), true);
            Check.due("parameters of " + method, method.getParameterCount() <= 7, true);
        }
        int fields = 0;
        for (Field field : owner.getDeclaredFields()) {
            fields += Modifier.isStatic(field.getModifiers()) ? 0 : 1;
            boolean isFine = !Modifier.isStatic(field.getModifiers()) || Modifier.isFinal(field.getModifiers());
            Check.due("static and not final " + field, isFine, true);
        }
        Check.due("fields of " + owner, fields <= 20, true);
    }

    private static void text() throws Exception {
        String text = Files.readString(Path.of("src/main/java/Crossbarry.java"), StandardCharsets.UTF_8);
        Check.due("signs 1 to 127", text.chars().allMatch(sign -> sign > 0 && sign < 128), true);
        String code = text.replaceAll("(?s)/\\*.*?\\*/", "").replaceAll("//[^\n]*", "");
        String[] banned = {
            "->", "::", "\\bimport\\s+(?!java\\.util\\.)", "\\bpackage\\b", "\\bfinally\\b", "\\bsynchronized\\b", "\\bassert\\b",
            "\\bSystem\\b(?!\\.arraycopy)", "\\bvar\\b", "\\bvolatile\\b", "\\bnative\\b", "Exact\\b", "\\bThread\\b",
            "\\bstatic\\s*\\{", "\\bMath\\.random\\b", "\\bObject\\b", "\\bhashCode\\b", "\\bgetMessage\\b"
        };
        for (String pattern : banned) {
            Check.due("found " + pattern, Pattern.compile(pattern).matcher(code).find(), false);
        }
    }
}
