import java.io.IOException;
import java.lang.reflect.Constructor;
import java.lang.reflect.Field;
import java.lang.reflect.Member;
import java.lang.reflect.Method;
import java.lang.reflect.Modifier;
import java.nio.file.Files;
import java.nio.file.Path;
import java.util.Set;
import java.util.TreeSet;

/** The class has the document's face and no more, and keeps to those of the language's rules that can be seen. */
public final class FaceTest {
    private static final String[] FACE = {
        "public static final int PictureChange.NONE",
        "public PictureChange(int,int)",
        "public int PictureChange.cell(boolean,int,int,int) throws IndexOutOfBoundsException,IllegalArgumentException",
        "public int PictureChange.register(int) throws IllegalArgumentException",
        "public int PictureChange.shift(int) throws IndexOutOfBoundsException",
        "public boolean PictureChange.chart(int,int,boolean) throws IndexOutOfBoundsException,IllegalStateException",
        "public int PictureChange.gain(int) throws IndexOutOfBoundsException",
        "public int PictureChange.repeat(int,int,int) throws IndexOutOfBoundsException,IllegalArgumentException",
        "public int PictureChange.floor(int) throws IllegalArgumentException",
        "public int PictureChange.bound(int,int) throws IndexOutOfBoundsException",
        "public int PictureChange.change(int,int) throws IndexOutOfBoundsException",
        "public int PictureChange.run()",
        "public int PictureChange.spot(int,int) throws IndexOutOfBoundsException",
        "public int PictureChange.map(int,int) throws IndexOutOfBoundsException",
        "public int PictureChange.alarm(int,int,int) throws IndexOutOfBoundsException",
        "public int PictureChange.falseOnes()",
        "public int PictureChange.day(int) throws IllegalArgumentException,IllegalStateException",
        "public long PictureChange.growth(int) throws IndexOutOfBoundsException",
        "public int PictureChange.count(int) throws IndexOutOfBoundsException",
    };
    private static final String[] RULED_OUT = {
        "import", "package", "try", "catch", "finally", "synchronized", "assert", "->", "::", "instanceof", "null",
        "float", "double", "Exact",
    };

    private static int wrong = 0;

    public static void main(String[] args) throws IOException {
        face();
        members();
        source();
        System.out.println(wrong == 0 ? "the face is as due" : wrong + " faults of the face");
        if (wrong != 0) {
            System.exit(1);
        }
    }

    private static void holds(boolean so, String what) {
        if (!so) {
            wrong++;
            System.out.println(what);
        }
    }

    private static void face() {
        Set<String> open = new TreeSet<>();
        for (Constructor<?> c : PictureChange.class.getDeclaredConstructors()) {
            addOpen(open, c, c.toString());
        }
        for (Method m : PictureChange.class.getDeclaredMethods()) {
            addOpen(open, m, m.toString());
        }
        for (Field f : PictureChange.class.getDeclaredFields()) {
            addOpen(open, f, f.toString());
        }
        Set<String> due = new TreeSet<>(Set.of(FACE));
        for (String member : due) {
            holds(open.contains(member), "missing: " + member);
        }
        for (String member : open) {
            holds(due.contains(member), "not in the document: " + member);
        }
        int kinds = PictureChange.class.getModifiers();
        holds(Modifier.isPublic(kinds) && Modifier.isFinal(kinds), "the class is not public and final");
    }

    private static void addOpen(Set<String> open, Member member, String text) {
        if (!Modifier.isPrivate(member.getModifiers())) {
            open.add(text.replace("java.lang.", ""));
        }
    }

    private static void members() {
        Set<String> names = new TreeSet<>();
        for (Method m : PictureChange.class.getDeclaredMethods()) {
            if (Modifier.isPublic(m.getModifiers())) {
                names.add(m.getName());
            }
        }
        members(PictureChange.class, names);
        Class<?>[] inside = PictureChange.class.getDeclaredClasses();
        holds(inside.length < 12, "too many classes");
        for (Class<?> c : inside) {
            holds(Modifier.isStatic(c.getModifiers()), c + " is not static");
            holds(!Modifier.isPublic(c.getModifiers()), c + " is public");
            members(c, names);
        }
    }

    private static void members(Class<?> c, Set<String> publicNames) {
        int fields = 0;
        for (Field f : c.getDeclaredFields()) {
            boolean isStatic = Modifier.isStatic(f.getModifiers());
            holds(!isStatic || Modifier.isFinal(f.getModifiers()), f + " is static and not final");
            fields += isStatic ? 0 : 1;
        }
        holds(fields <= 20, c + " has too many fields");
        for (Method m : c.getDeclaredMethods()) {
            holds(m.getParameterCount() <= 7, m + " has too many parameters");
            boolean isFace = Modifier.isPublic(m.getModifiers());
            holds(isFace || !publicNames.contains(m.getName()), m + " bears the name of a public one");
        }
    }

    private static void source() throws IOException {
        String text = Files.readString(Path.of("src/main/java/PictureChange.java"));
        // Comments and texts may use any word.
        String code = text.replaceAll("(?s)/\\*.*?\\*/", "").replaceAll("//.*", "").replaceAll("\"[^\"]*\"", "");
        for (String word : RULED_OUT) {
            String edge = Character.isLetter(word.charAt(0)) ? "\\b" : "";
            holds(code.split(edge + word + edge, 2).length == 1, "ruled out: " + word);
        }
    }
}
