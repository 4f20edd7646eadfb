import java.io.IOException;
import java.lang.reflect.Constructor;
import java.lang.reflect.Field;
import java.lang.reflect.Method;
import java.lang.reflect.Modifier;
import java.nio.file.Files;
import java.nio.file.Path;
import java.util.ArrayList;
import java.util.Arrays;
import java.util.HashSet;
import java.util.List;
import java.util.Set;
import java.util.TreeSet;

/** The face as the document gives it, and rules of LANGUAGE.md that reflection or the source can show. */
public final class FaceTests {
    private static final String[] FACE = {
        "int feed(int,int,int,int,int)", "int text(int)", "int fault(int)", "int named(int,int)", "int folk(int,int)",
        "int screen(int,int)", "int season(int,int)", "int leaf(int,int)", "long law(int,int)",
        "boolean carry(int,int,int)", "boolean turn(int)", "int mend(int)", "int step(int,int)", "int go(int)",
        "int ahead(int,int,int)", "int steps(int,int,int)", "int young(int,int,int)", "int stand(int,int)",
        "int ofSeason(int)", "int worth(int)", "int rests(int,int)", "int rest(int,int,int)", "long holds(int,int,int)",
        "int meet(int,int,int)", "int needed()", "int nextTo(int)", "int see(int,int,int,int,boolean)", "int out(int)",
        "boolean known(int)", "int painted(int)", "int chance(int,int,int)", "int tried(int,int,int)", "int undo()",
        "int keep()", "int back()", "int count(int)"};
    // What LANGUAGE.md leaves no room for, as it would stand in the source.
    private static final String[] BARRED = {
        "catch", "finally", "synchronized", "assert ", "->", "::", ".getMessage", "float ", "double ", "Exact(",
        "String.valueOf", "String.format", ".concat(", "System.out", "System.nano", "System.current", "Random",
        "Thread", "hashCode", "toString", "instanceof", "static {", "package "};

    private static int wrong = 0;

    private static void say(boolean right, String what) {
        if (!right) {
            wrong++;
            System.out.println("not as due: " + what);
        }
    }

    private static String written(Method method) {
        StringBuilder all = new StringBuilder(method.getReturnType().getName()).append(' ').append(method.getName()).append('(');
        Class<?>[] types = method.getParameterTypes();
        for (int k = 0; k < types.length; k++) all.append(k == 0 ? "" : ",").append(types[k].getName());
        return all.append(')').toString();
    }

    private static void face() {
        Class<ScreenRoom> room = ScreenRoom.class;
        say(Modifier.isPublic(room.getModifiers()) && Modifier.isFinal(room.getModifiers()), "public and final");
        Set<String> open = new TreeSet<>();
        for (Method method : room.getDeclaredMethods()) {
            if (!Modifier.isPrivate(method.getModifiers()) && !method.isSynthetic()) open.add(written(method));
        }
        say(open.equals(new TreeSet<>(Arrays.asList(FACE))), "the methods: " + open);
        for (Constructor<?> made : room.getDeclaredConstructors()) {
            say(Modifier.isPublic(made.getModifiers()) && made.getParameterCount() == 0, "the constructor");
        }
        for (Field field : room.getDeclaredFields()) {
            boolean isConstant = field.getName().equals("NONE");
            say(Modifier.isPublic(field.getModifiers()) == isConstant, "field " + field.getName());
            say(isConstant || Modifier.isPrivate(field.getModifiers()), "field " + field.getName());
        }
        say(ScreenRoom.NONE == -1, "NONE");
    }

    private static void inside() {
        Set<String> faceNames = new HashSet<>();
        for (String method : FACE) faceNames.add(method.substring(method.indexOf(' ') + 1, method.indexOf('(')));
        List<Class<?>> all = new ArrayList<>(Arrays.asList(ScreenRoom.class.getDeclaredClasses()));
        say(all.size() <= 11, "at most some twelve classes");
        for (Class<?> nested : all) {
            say(Modifier.isStatic(nested.getModifiers()), "static: " + nested.getName());
            for (Method method : nested.getDeclaredMethods()) {
                say(!faceNames.contains(method.getName()), "a name of the face: " + written(method));
            }
        }
        all.add(ScreenRoom.class);
        for (Class<?> one : all) {
            int fields = 0;
            for (Field field : one.getDeclaredFields()) {
                boolean isStatic = Modifier.isStatic(field.getModifiers());
                if (!isStatic) fields++;
                say(!isStatic || Modifier.isFinal(field.getModifiers()), "static and not final: " + field);
            }
            say(fields <= 20, "at most some twenty fields: " + one.getName());
            for (Method method : one.getDeclaredMethods()) {
                say(method.getParameterCount() <= 7, "at most seven parameters: " + written(method));
            }
        }
    }

    private static void source() throws IOException {
        List<String> lines = Files.readAllLines(Path.of("src/main/java/ScreenRoom.java"));
        int begun = 0;
        for (int k = 0; k < lines.size(); k++) {
            String line = lines.get(k);
            for (String barred : BARRED) say(!line.contains(barred), "line " + (k + 1) + " has " + barred);
            for (int c = 0; c < line.length(); c++) say(line.charAt(c) < 127, "a sign above 126 in line " + (k + 1));
            say(!line.startsWith("import ") || line.equals("import java.util.NoSuchElementException;"), line);
            if (line.matches(" {4,8}\\S.*\\) (throws .*)?\\{")) begun = k;
            if (line.matches(" {4,8}\\}")) say(k - begun <= 60, "a method of more than sixty lines ends in line " + (k + 1));
        }
    }

    public static void main(String[] args) throws IOException {
        face();
        inside();
        source();
        System.out.println(wrong == 0 ? "the face and the rules are as due" : wrong + " not as due");
        if (wrong != 0) System.exit(1);
    }
}
