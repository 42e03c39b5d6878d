import java.lang.reflect.Constructor;
import java.lang.reflect.Field;
import java.lang.reflect.Method;
import java.lang.reflect.Modifier;
import java.nio.file.Files;
import java.nio.file.Path;
import java.util.ArrayList;
import java.util.List;
import java.util.regex.Matcher;
import java.util.regex.Pattern;

/** "The public face" and LANGUAGE.md's rule 1: the document's members, in its order and words, and no others. */
public final class FaceTest {
    private static final Class<?> FACE = MilestoneMaids.class;

    public static void main(String[] args) throws Exception {
        String document = Files.readString(Path.of("../shared/DOC.md"));
        String source = Files.readString(Path.of("src/main/java/MilestoneMaids.java"));
        List<String> members = members(document);
        Due.is("members that the document tells", members.size(), 2 + 1 + 39);
        int from = 0;
        for (String member : members) {
            int at = source.indexOf("    " + member, from);
            Due.is("stands behind the one ahead of it, word by word: " + member, at >= from ? 1 : 0, 1);
            from = Math.max(from, at);
        }
        headings(document, source);
        constants();
        noOthers();
        Due.end("FaceTest");
    }

    /** The lines of the document's class; those of methods without their ; and of constants with it. */
    private static List<String> members(String document) {
        List<String> found = new ArrayList<>();
        int open = document.indexOf("public final class MilestoneMaids {");
        for (String line : document.substring(open, document.indexOf("\n}\n", open)).split("\n")) {
            String member = line.strip();
            if (!line.startsWith("    public")) continue;
            found.add(member.endsWith(");") ? member.substring(0, member.length() - 1) + " {" : member);
        }
        return found;
    }

    /** "Ahead of the calls `maid`, .. the interface says: ---- ..": the words, and then those calls alone. */
    private static void headings(String document, String source) {
        Matcher told = Pattern.compile("Ahead of the calls (.*) the interface says: (---- .*)\\.").matcher(document);
        int n = 0;
        while (told.find()) {
            n++;
            int at = source.indexOf("    // " + told.group(2) + "\n");
            Due.is(told.group(2), at >= 0 ? 1 : 0, 1);
            int end = source.indexOf("    // ----", at + 10);
            List<String> due = List.of(told.group(1).replace("`", "").split(", "));
            Matcher call = Pattern.compile("    public \\w+ (\\w+)\\(").matcher(source.substring(Math.max(0, at), end));
            List<String> got = new ArrayList<>();
            while (call.find()) got.add(call.group(1));
            Due.is("behind " + told.group(2) + ": " + got + ", due: " + due, got.equals(due) ? 1 : 0, 1);
        }
        Due.is("headings", n, 6);
    }

    private static void constants() throws Exception {
        String[] names = {"NONE", "BAD", "STATE", "FULL"};
        for (int i = 0; i < 4; i++) {
            Field f = FACE.getField(names[i]);
            Due.is(names[i] + " is an int", f.getType() == int.class ? 1 : 0, 1);
            Due.is(names[i], f.getInt(null), -1 - i);
        }
        Due.is("NO is a long", FACE.getField("NO").getType() == long.class ? 1 : 0, 1);
        Due.is("NO", FACE.getField("NO").getLong(null), Long.MIN_VALUE);
    }

    private static void noOthers() {
        Due.is("public and final, without a package", FACE.getModifiers(), Modifier.PUBLIC | Modifier.FINAL);
        Due.is("no package", FACE.getPackageName().length(), 0);
        Due.is("of no class", FACE.getSuperclass() == Object.class && FACE.getInterfaces().length == 0 ? 1 : 0, 1);
        int methods = 0;
        for (Method m : FACE.getDeclaredMethods()) {
            boolean isPublic = m.getModifiers() == Modifier.PUBLIC;
            if (isPublic) methods++;
            Due.is(m + " is public or private", isPublic || Modifier.isPrivate(m.getModifiers()) ? 1 : 0, 1);
        }
        Due.is("methods", methods, 39);
        int constants = 0;
        for (Field f : FACE.getDeclaredFields()) {
            boolean isPublic = f.getModifiers() == (Modifier.PUBLIC | Modifier.STATIC | Modifier.FINAL);
            if (isPublic) constants++;
            Due.is(f + " is a constant or private", isPublic || Modifier.isPrivate(f.getModifiers()) ? 1 : 0, 1);
        }
        Due.is("constants", constants, 5);
        Constructor<?>[] all = FACE.getDeclaredConstructors();
        Due.is("constructors", all.length, 1);
        Due.is("the constructor", all[0].getModifiers() == Modifier.PUBLIC ? all[0].getParameterCount() : -1, 0);
        for (Class<?> c : FACE.getDeclaredClasses()) {
            boolean isOwn = !Modifier.isPublic(c.getModifiers()) && !Modifier.isProtected(c.getModifiers());
            Due.is(c + " is private or package-visible, and static", isOwn && Modifier.isStatic(c.getModifiers()) ? 1 : 0, 1);
        }
    }
}
