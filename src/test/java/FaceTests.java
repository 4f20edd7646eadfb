import java.io.IOException;
import java.lang.reflect.Constructor;
import java.lang.reflect.Field;
import java.lang.reflect.Method;
import java.lang.reflect.Modifier;
import java.nio.file.Files;
import java.nio.file.Path;
import java.util.ArrayList;
import java.util.Arrays;
import java.util.HashSet;
import java.util.List;
import java.util.Set;
import java.util.TreeSet;

/** The face as the document gives it, and rules of LANGUAGE.md that reflection or the source can show. */
public final class FaceTests {
    private static final String[] FACE = {
        "int feed(int,int,int,int,int)", "int text(int)", "int fault(int)", "int named(int,int)", "int folk(int,int)",
        "int screen(int,int)", "int season(int,int)", "int leaf(int,int)", "long law(int,int)",
        "boolean carry(int,int,int)", "boolean turn(int)", "int mend(int)", "int step(int,int)", "int go(int)",
        "int ahead(int,int,int)", "int steps(int,int,int)", "int young(int,int,int)", "int stand(int,int)",
        "int ofSeason(int)", "int worth(int)", "int rests(int,int)", "int rest(int,int,int)", "long holds(int,int,int)",
        "int meet(int,int,int)", "int needed()", "int nextTo(int)", "int see(int,int,int,int,boolean)", "int out(int)",
        "boolean known(int)", "int painted(int)", "int chance(int,int,int)", "int tried(int,int,int)", "int undo()",
        "int keep()", "int back()", "int count(int)"};
    // What LANGUAGE.md leaves no room for, as it would stand in the source.
    private static final String[] BARRED = {
        "catch", "finally", "synchronized", "assert ", "->", "::", ".getMessage", "float ", "double ", "Exact(",
        "String.valueOf", "String.format", ".concat(", "System.out", "System.nano", "System.current", "Random",
        "Thread", "hashCode", "toString", "instanceof", "static {", "package "};

    private static int wrong = 0;

    private static void say(boolean right, String what) {
        if (!right) {
            wrong++;
            System.out.println("not as due: " + what);
        }
    }

    private static String written(Method method) {
        StringBuilder all = new StringBuilder(method.getReturnType().getName()).append(' ').append(method.getName()).append('(');
        Class<?>[] types = method.getParameterTypes();
        for (int k = 0; k < types.length; k++) all.append(k == 0 ? "" : ",").append(types[k].getName());
        return all.append(')').toString();
    }

    private static void face() {
        Class<ScreenRoom> room = ScreenRoom.class;
        say(Modifier.isPublic(room.getModifiers()) && Modifier.isFinal(room.getModifiers()), "public and final");
        Set<String> open = new TreeSet<>();
        for (Method method : room.getDeclaredMethods()) {
            if (!Modifier.isPrivate(method.getModifiers()) && !method.isSynthetic()) open.add(written(method));
        }
        say(open.equals(new TreeSet<>(Arrays.asList(FACE))), "the methods: " + open);
        for (Constructor<?> made : room.getDeclaredConstructors()) {
            say(Modifier.isPublic(made.getModifiers()) && made.getParameterCount() == 0, "the constructor");
        }
        for (Field field : room.getDeclaredFields()) {
            boolean isConstant = field.getName().equals("NONE");
            say(Modifier.isPublic(field.getModifiers()) == isConstant, "field " + field.getName());
            say(isConstant || Modifier.isPrivate(field.getModifiers()), "field " + field.getName());
        }
        say(ScreenRoom.NONE == -1, "NONE");
    }

    private static void inside() {
        Set<String> faceNames = new HashSet<>();
        for (String method : FACE) faceNames.add(method.substring(method.indexOf(' ') + 1, method.indexOf('(')));
        List<Class<?>> all = new ArrayList<>(Arrays.asList(ScreenRoom.class.getDeclaredClasses()));
        say(all.size() <= 11, "at most some twelve classes");
        for (Class<?> nested : all) {
            say(Modifier.isStatic(nested.getModifiers()), "static: " + nested.getName());
            for (Method method : nested.getDeclaredMethods()) {
                say(!faceNames.contains(method.getName()), "a name of the face: " + written(method));
            }
        }
        all.add(ScreenRoom.class);
        for (Class<?> one : all) {
            int fields = 0;
            for (Field field : one.getDeclaredFields()) {
                boolean isStatic = Modifier.isStatic(field.getModifiers());
                if (!isStatic) fields++;
                say(!isStatic || Modifier.isFinal(field.getModifiers()), "static and not final: " + field);
            }
            say(fields <= 20, "at most some twenty fields: " + one.getName());
            for (Method method : one.getDeclaredMethods()) {
                say(method.getParameterCount() <= 7, "at most seven parameters: " + written(method));
            }
        }
    }

    private static void source() throws IOException {
        List<String> lines = Files.readAllLines(Path.of("src/main/java/ScreenRoom.java"));
        int begun = 0;
        for (int k = 0; k < lines.size(); k++) {
            String line = lines.get(k);
            for (String barred : BARRED) say(!line.contains(barred), "line " + (k + 1) + " has " + barred);
            for (int c = 0; c < line.length(); c++) say(line.charAt(c) < 127, "a sign above 126 in line " + (k + 1));
            say(!line.startsWith("import ") || line.equals("import java.util.NoSuchElementException;"), line);
            if (line.matches(" {4,8}\\S.*\\) (throws .*)?\\{")) begun = k;
            if (line.matches(" {4,8}\\}")) say(k - begun <= 60, "a method of more than sixty lines ends in line " + (k + 1));
        }
    }

    private static int callAll(ScreenRoom x) {
        int sum = 0;
        byte[] text = ("room 8 8;screen a 0 0 0 4 0;screen b 1 2 0 4 0;screen c 2 4 0 4 0;screen d 3 6 0 4 0;screen e 0 0 7 4 1;"
            + "folk x 1 1 1 1;folk y 2 7 7 2;carry a 1 1 1;step x 2 2;moth 60;seed 9;"
            + "law pay (season+from)*2-near<=whole and not hour or 2;").getBytes(java.nio.charset.StandardCharsets.ISO_8859_1);
        int[] five = new int[5];
        for (int at = 0; at < text.length; at += 20) {
            for (int k = 0; k < 20; k++) five[k / 4] = five[k / 4] << 8 | (at + k < text.length ? text[at + k] : 32);
            sum += x.feed(five[0], five[1], five[2], five[3], five[4]);
        }
        sum += x.text(text.length) + x.fault(0) + x.named(0, 1) + x.folk(0, 5) + x.screen(0, 5) + x.season(1, 1) + x.leaf(0, 0);
        sum += (int) x.law(1, 0) + (x.carry(0, 1, 2) ? 1 : 0) + (x.turn(4) ? 1 : 0) + x.step(0, 2) + x.undo() + x.keep() + x.go(50);
        sum += x.mend(0) + x.ahead(99, 3, 0) + x.steps(0, 7, 7) + x.young(0, 7, 7) + x.stand(0, 3) + x.ofSeason(1) + x.worth(1);
        sum += x.rests(0, 1) + x.rest(0, 1, 0) + (int) x.holds(0, 6, 1) + x.meet(0, 1, 1) + x.needed() + x.nextTo(0);
        sum += x.see(40, 1, 1, 1, true) + x.out(0) + (x.known(1) ? 1 : 0) + x.painted(0) + x.chance(7, 99, 3) + x.tried(2, 0, 99);
        return sum + x.back() + x.count(11);
    }

    /** All calls of a run live in one room, so a call makes next to nothing: all rows are made with the object. */
    private static void calls() {
        com.sun.management.ThreadMXBean threads =
            (com.sun.management.ThreadMXBean) java.lang.management.ManagementFactory.getThreadMXBean();
        long self = Thread.currentThread().getId();
        long before = threads.getThreadAllocatedBytes(self);
        ScreenRoom room = new ScreenRoom();
        long made = threads.getThreadAllocatedBytes(self) - before;
        int sum = callAll(room);
        before = threads.getThreadAllocatedBytes(self);
        for (int k = 0; k < 10; k++) sum += callAll(room);
        long used = threads.getThreadAllocatedBytes(self) - before;
        System.out.println("an object takes " + made + " bytes, ten rounds of all calls make " + used + " (" + sum + ")");
        say(made < 100000, "what an object takes: " + made);
        // The rounds' own text and row.
        say(used < 10 * 3000, "what calls make: " + used);
    }

    public static void main(String[] args) throws IOException {
        face();
        inside();
        source();
        calls();
        System.out.println(wrong == 0 ? "the face and the rules are as due" : wrong + " not as due");
        if (wrong != 0) System.exit(1);
    }
}
