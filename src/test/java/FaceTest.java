import java.io.IOException;
import java.lang.reflect.Constructor;
import java.lang.reflect.Field;
import java.lang.reflect.Method;
import java.lang.reflect.Modifier;
import java.nio.file.Files;
import java.nio.file.Path;
import java.util.TreeSet;
import java.util.regex.Matcher;
import java.util.regex.Pattern;

/** The face of the document and those rules of LANGUAGE.md that can be seen from outside. */
public final class FaceTest {
    private static final String[] FACE = {
        "int make(int,int,int,int,int,int,int)", "boolean set(int,int,int)", "int feed(int,int,int,int,int)",
        "boolean end(int)", "int send(int,int)", "int time(int)", "int read(int)", "int which()", "boolean stretch(int)",
        "int learn(int,int)", "boolean forget(int,int)", "int key(int,int)", "int press(int,int)", "int of(int,int)",
        "int check(int,int)", "int many(int)", "int foreseen(int,int)", "int both(int,int)", "boolean box(int,int,int)",
        "boolean lead(int,int,int,int)", "boolean maybe(int,int)", "int push(int,int)", "int way(int,int)",
        "int button(int)", "int told(int,int)", "int count(int)",
    };
    private static final String[] BARRED = {
        "\\btry\\b", "\\bcatch\\b", "\\bfinally\\b", "\\bsynchronized\\b", "\\bassert\\b", "->", "::", "\\bSystem\\.(?!arraycopy)",
        "Exact\\(", "\\bRandom\\b", "\\bThread\\b", "\\bpackage\\b", "\\bdouble\\b", "\\bfloat\\b", "^\\s*static\\s*\\{",
    };

    public static void main(String[] args) throws IOException {
        members();
        classesInside();
        source(Files.readString(Path.of(args.length > 0 ? args[0] : "src/main/java/OneHandset.java")));
        Due.finish("FaceTest");
    }

    private static String signature(Method m) {
        StringBuilder s = new StringBuilder(m.getReturnType().getName()).append(' ').append(m.getName()).append('(');
        for (int i = 0; i < m.getParameterCount(); i++) {
            s.append(i == 0 ? "" : ",").append(m.getParameterTypes()[i].getName());
        }
        return s.append(')').toString();
    }

    private static void members() {
        Class<?> c = OneHandset.class;
        Due.yes("the class is public and final", Modifier.isPublic(c.getModifiers()) && Modifier.isFinal(c.getModifiers()));
        TreeSet<String> due = new TreeSet<>(java.util.List.of(FACE));
        TreeSet<String> names = new TreeSet<>();
        for (Method m : c.getDeclaredMethods()) {
            if (!Modifier.isPrivate(m.getModifiers())) {
                Due.yes(signature(m) + " is of the face", due.remove(signature(m)) && Modifier.isPublic(m.getModifiers()));
                Due.no(signature(m) + " is static", Modifier.isStatic(m.getModifiers()));
                Due.is(signature(m) + " declares", m.getExceptionTypes().length, m.getName().equals("time") ? 1 : 0);
                names.add(m.getName());
            }
        }
        Due.is("methods that are missing " + due, due.size(), 0);
        for (Method m : c.getDeclaredMethods()) {
            Due.no(m + " bears a public name", Modifier.isPrivate(m.getModifiers()) && names.contains(m.getName()));
        }
        for (Field f : c.getDeclaredFields()) {
            Due.is(f + " is private", Modifier.isPrivate(f.getModifiers()) ? 1 : 0, f.getName().equals("NONE") ? 0 : 1);
            Due.yes(f + " is final if static", !Modifier.isStatic(f.getModifiers()) || Modifier.isFinal(f.getModifiers()));
        }
        Constructor<?>[] made = c.getDeclaredConstructors();
        Due.yes("one public constructor", made.length == 1 && Modifier.isPublic(made[0].getModifiers()));
    }

    private static void classesInside() {
        Class<?>[] inside = OneHandset.class.getDeclaredClasses();
        Due.yes("at most twelve classes", inside.length < 12);
        for (Class<?> c : inside) {
            int mods = c.getModifiers();
            Due.yes(c + " is static and not public", Modifier.isStatic(mods) && !Modifier.isPublic(mods) && !Modifier.isProtected(mods));
            Due.yes(c + " has few fields", c.getDeclaredFields().length <= 20);
            for (Method m : c.getDeclaredMethods()) {
                Due.yes(m + " has few parameters", m.getParameterCount() <= 7);
            }
            for (Constructor<?> k : c.getDeclaredConstructors()) {
                Due.yes(k + " has few parameters", k.getParameterCount() <= 7);
            }
        }
    }

    private static void source(String text) {
        String code = text.replaceAll("(?s)/\\*.*?\\*/", "").replaceAll("//[^\\n]*", "");
        for (String barred : BARRED) {
            Due.no("the class has " + barred, Pattern.compile(barred, Pattern.MULTILINE).matcher(code).find());
        }
        Matcher imports = Pattern.compile("import ([\\w.*]+);").matcher(code);
        while (imports.find()) {
            Due.yes(imports.group(1) + " is of the library that is left",
                imports.group(1).equals("java.util.Arrays") || imports.group(1).equals("java.util.NoSuchElementException"));
        }
        Matcher thrown = Pattern.compile("throw new (\\w+)").matcher(code);
        int found = 0;
        while (thrown.find()) {
            found++;
            Due.yes("only NoSuchElementException is thrown", thrown.group(1).equals("NoSuchElementException"));
        }
        Due.is("throws", found, 1);
        Due.yes("signs are plain", text.chars().allMatch(ch -> ch == '\n' || ch >= 32 && ch < 127));
    }
}
