import java.io.IOException;
import java.lang.reflect.Constructor;
import java.lang.reflect.Field;
import java.lang.reflect.Method;
import java.lang.reflect.Modifier;
import java.nio.file.Files;
import java.nio.file.Path;
import java.util.ArrayList;
import java.util.List;
import java.util.Set;
import java.util.TreeSet;
import java.util.regex.Matcher;
import java.util.regex.Pattern;

/** The document's face, and those rules of LANGUAGE.md that can be read off the class or its source. */
public final class LanguageTest {
    private static final String FACE = "feed(int,int,int,int,int):int word(int):int piper(int,int):int "
        + "ill(int,boolean):boolean old(int):boolean pieces(int,int):boolean "
        + "call(int,int,int,int,int,int,int,int):int off(int):boolean played():int who(int,int):int "
        + "tune(int,int):int heard(int):int share(int,int):int day():int lasts():int look(int,int):int "
        + "wages(int):int about(int,int):int count(int):int";
    private static final String[] BANNED = {
        "\\bthrow\\b", "\\bthrows\\b", "\\btry\\b", "\\bcatch\\b", "\\bsynchronized\\b", "\\bassert\\b",
        "->", "::", "\\bObject\\b", "\\bSystem\\.(?!arraycopy)", "\\bMath\\.\\w*Exact\\b", "\\bThread\\b",
        "\\bRandom\\b", "\\bimport (?!java\\.util\\.(Arrays|ArrayList|List|Iterator);)", "\\bprotected\\b",
        "\\bhashCode\\b", "\\btoString\\b", "\\bequals\\b", "\\bnative\\b", "\\bpackage\\b",
        "\\bstatic\\s*\\{", "\\[\\]\\s*\\[\\]\\s*\\[\\]", "while \\(true\\)", "for \\(;;"};

    private LanguageTest() {
    }

    public static void main(String[] args) throws IOException {
        checkFace();
        checkMembers();
        checkNested();
        String source = Files.readString(Path.of("src/main/java/TowerPipers.java"));
        checkSource(source);
        checkLengths(source);
        Due.end();
    }

    private static String signature(Method m) {
        StringBuilder text = new StringBuilder(m.getName()).append('(');
        for (Class<?> type : m.getParameterTypes()) {
            text.append(text.charAt(text.length() - 1) == '(' ? "" : ",").append(type.getName());
        }
        return text.append("):").append(m.getReturnType().getName()).toString();
    }

    private static void checkFace() {
        Set<String> due = new TreeSet<>(List.of(FACE.split(" ")));
        Set<String> got = new TreeSet<>();
        Set<String> hidden = new TreeSet<>();
        for (Method m : TowerPipers.class.getDeclaredMethods()) {
            if (Modifier.isPublic(m.getModifiers())) {
                got.add(signature(m));
                Due.no("static " + m.getName(), Modifier.isStatic(m.getModifiers()));
            } else {
                Due.yes("private " + m.getName(), Modifier.isPrivate(m.getModifiers()));
                hidden.add(m.getName());
            }
        }
        Due.yes("the face is " + got, due.equals(got));
        for (String one : due) {
            String name = one.substring(0, one.indexOf('('));
            Due.no("a private method is named " + name, hidden.contains(name));
        }
        Due.is("modifiers of the class", Modifier.PUBLIC | Modifier.FINAL, TowerPipers.class.getModifiers());
    }

    private static void checkMembers() {
        Constructor<?>[] constructors = TowerPipers.class.getDeclaredConstructors();
        Due.is("constructors", 1, constructors.length);
        Due.is("parameters of the constructor", 0, constructors[0].getParameterCount());
        Due.yes("the constructor is public", Modifier.isPublic(constructors[0].getModifiers()));
        for (Field f : TowerPipers.class.getDeclaredFields()) {
            boolean none = f.getName().equals("NONE");
            Due.is("visibility of " + f.getName(), none ? Modifier.PUBLIC : Modifier.PRIVATE,
                f.getModifiers() & (Modifier.PUBLIC | Modifier.PRIVATE | Modifier.PROTECTED));
        }
    }

    private static void checkNested() {
        List<Class<?>> all = new ArrayList<>(List.of(TowerPipers.class.getDeclaredClasses()));
        Due.yes("at most twelve classes", all.size() + 1 <= 12);
        for (Class<?> c : all) {
            Due.yes(c.getName() + " is static", Modifier.isStatic(c.getModifiers()));
            Due.no(c.getName() + " is public", Modifier.isPublic(c.getModifiers()));
        }
        all.add(TowerPipers.class);
        for (Class<?> c : all) {
            int fields = 0;
            for (Field f : c.getDeclaredFields()) {
                boolean isStatic = Modifier.isStatic(f.getModifiers());
                fields += isStatic ? 0 : 1;
                Due.no(f + " is static and not final", isStatic && !Modifier.isFinal(f.getModifiers()));
            }
            Due.yes(c.getName() + " has at most twenty fields", fields <= 20);
            for (Method m : c.getDeclaredMethods()) {
                Due.yes(m + " has at most seven parameters",
                    m.getParameterCount() <= 7 || c == TowerPipers.class && FACE.contains(signature(m)));
            }
        }
    }

    private static void checkSource(String source) {
        String code = source.replaceAll("(?s)/\\*.*?\\*/", " ").replaceAll("//[^\n]*", " ");
        for (String banned : BANNED) {
            Matcher matcher = Pattern.compile(banned).matcher(code);
            Due.no("the source has " + banned, matcher.find());
        }
        Due.yes("plain characters", source.chars().allMatch(ch -> ch == '\n' || ch >= ' ' && ch < 127));
    }

    private static void checkLengths(String source) {
        String[] lines = source.split("\n");
        int begun = -1;
        String indent = "";
        for (int k = 0; k < lines.length; k++) {
            Matcher head = Pattern.compile("^( +)[\\w\\[\\] ]+\\([^;]*\\{$").matcher(lines[k]);
            if (begun < 0 && head.find()) {
                begun = k;
                indent = head.group(1);
            } else if (begun >= 0 && lines[k].equals(indent + "}")) {
                Due.yes("the method at line " + (begun + 1) + " is short", k - begun < 60);
                begun = -1;
            }
        }
        Due.is("every method ends", -1, begun);
    }
}
