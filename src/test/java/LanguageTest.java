import java.io.IOException;
import java.lang.management.ManagementFactory;
import java.lang.reflect.Array;
import java.lang.reflect.Field;
import java.lang.reflect.Method;
import java.lang.reflect.Modifier;
import java.nio.file.Files;
import java.nio.file.Path;
import java.util.ArrayList;
import java.util.IdentityHashMap;
import java.util.List;
import java.util.Map;
import java.util.Set;
import java.util.TreeSet;
import java.util.regex.Matcher;
import java.util.regex.Pattern;

/** What can be told of LANGUAGE.md by looking: the face, forbidden words, lengths, and the room that a run takes. */
public final class LanguageTest {
    private static final Path SOURCE = Path.of("src/main/java/BandstandLawn.java");
    private static final List<String> FACE = List.of("int feed(int,int,int,int,int)", "int back(int)", "int read()",
            "int place()", "int cell(int,int)", "int goer(int,int)", "int mow(int)", "boolean rope(int,boolean)",
            "boolean carry(int,int)", "int beats(int)", "boolean undo()", "int next(int)", "int together(int,int)",
            "int way(int,int,int)", "int leave(int,int,int)", "int mows(int,int,int,int)", "int part(int,int)",
            "int meet(int,int,int)", "int returns(int)", "int never(int)", "int stood(int,int,int)", "int loud(int)",
            "int silence(int)", "int chorus(int)", "int period()", "int centre(int)", "int far(int,int)",
            "int pairs(int)", "int then(int,int,int)", "int tunesIn(int)", "int year(int,int,int)",
            "int tell(int,boolean)", "int forget()", "int fits(int,int)", "int listen(int)", "boolean hold(int)",
            "boolean restore(int)", "int count(int)");
    private static final List<String> FORBIDDEN = List.of("\\bthrow", "\\btry\\b", "\\bcatch\\b", "\\bsynchronized\\b",
            "\\bassert\\b", "->", "::", "\\bstatic\\s*\\{", "\\bhashCode\\b", "\\btoString\\b", "Exact\\b",
            "\\bSystem\\.(?!arraycopy)", "\\bArrays\\.(?!copyOf|copyOfRange|fill)", "\\bvar\\b", "\\bimport (?!java\\.util\\.Arrays;)",
            "\"\\s*\\+", "\\+\\s*\"", "\\bprotected\\b", "\\bpackage\\b");

    private static final Check CHECK = new Check();

    public static void main(String[] args) throws Exception {
        face();
        words();
        lengths();
        room();
        CHECK.end("LanguageTest");
    }

    private static void yes(String what, boolean got) {
        CHECK.due(what, got, true);
    }

    private static void face() throws Exception {
        Class<?> type = BandstandLawn.class;
        yes("public and final", Modifier.isPublic(type.getModifiers()) && Modifier.isFinal(type.getModifiers()));
        Set<String> face = new TreeSet<>(FACE);
        Set<String> names = new TreeSet<>();
        for (Method method : type.getDeclaredMethods()) {
            String told = signature(method);
            if (!Modifier.isPrivate(method.getModifiers())) {
                yes("in the face: " + told, face.remove(told) && Modifier.isPublic(method.getModifiers()));
                names.add(method.getName());
            }
        }
        yes("all of the face: " + face, face.isEmpty());
        for (Field field : type.getDeclaredFields()) {
            boolean none = field.getName().equals("NONE") && field.getInt(null) == -1;
            yes("private: " + field, none != Modifier.isPrivate(field.getModifiers()));
        }
        CHECK.due("constructors", type.getDeclaredConstructors().length, 1);
        List<Class<?>> all = new ArrayList<>(List.of(type.getDeclaredClasses()));
        yes("twelve classes at most", all.size() + 1 <= 12);
        for (Class<?> inner : all) {
            yes("static: " + inner, Modifier.isStatic(inner.getModifiers()));
            yes("not public: " + inner, !Modifier.isPublic(inner.getModifiers()));
            yes("no class deeper: " + inner, inner.getDeclaredClasses().length == 0);
        }
        all.add(type);
        for (Class<?> one : all) {
            int fields = 0;
            for (Field field : one.getDeclaredFields()) {
                boolean isStatic = Modifier.isStatic(field.getModifiers());
                fields += isStatic ? 0 : 1;
                yes("static is final: " + field, !isStatic || Modifier.isFinal(field.getModifiers()));
            }
            yes("twenty fields at most: " + one, fields <= 20);
            for (Method method : one.getDeclaredMethods()) {
                yes("seven parameters at most: " + method, method.getParameterCount() <= 7);
                yes("no name of the face: " + method, one == type && !Modifier.isPrivate(method.getModifiers())
                        || !names.contains(method.getName()));
            }
        }
    }

    private static String signature(Method method) {
        StringBuilder told = new StringBuilder(method.getReturnType() + " " + method.getName() + "(");
        for (Class<?> parameter : method.getParameterTypes()) {
            told.append(told.charAt(told.length() - 1) == '(' ? "" : ",").append(parameter);
        }
        return told.append(")").toString();
    }

    private static void words() throws IOException {
        String source = Files.readString(SOURCE).replaceAll("(?s)/\\*.*?\\*/", " ").replaceAll("//[^\n]*", " ");
        for (String word : FORBIDDEN) {
            Matcher matcher = Pattern.compile(word).matcher(source);
            yes("without " + word, !matcher.find());
        }
        yes("signs up to 127", source.chars().allMatch(sign -> sign < 128));
    }

    /** A method ends where a brace stands as far in as its first line. */
    private static void lengths() throws IOException {
        List<String> rows = Files.readAllLines(SOURCE);
        for (int i = 0; i < rows.size(); i++) {
            Matcher begin = Pattern.compile("^( {4}| {8})(?!\\s)[^/*].*\\) \\{$").matcher(rows.get(i));
            if (begin.matches() && !rows.get(i).contains(" class ")) {
                int end = i;
                while (end < rows.size() && !rows.get(end).equals(begin.group(1) + "}")) {
                    end++;
                }
                yes("sixty lines at most: " + rows.get(i).trim(), end - i < 60);
            }
        }
    }

    // ---- the room

    private static void room() throws Exception {
        Map<Object, Boolean> seen = new IdentityHashMap<>();
        long elements = walk(new BandstandLawn(), seen);
        System.out.println("a lawn takes " + seen.size() + " objects, " + elements + " fields and elements");
        yes("a lawn takes few objects: " + seen.size(), seen.size() <= 400);
        yes("a lawn takes few elements: " + elements, elements <= 10000);
        callsMakeNothing();
    }

    private static long walk(Object object, Map<Object, Boolean> seen) throws IllegalAccessException {
        if (object == null || object instanceof String || seen.put(object, true) != null) {
            return 0;
        }
        long elements = 0;
        Class<?> type = object.getClass();
        if (type.isArray()) {
            int length = Array.getLength(object);
            elements = length;
            for (int i = 0; i < length && !type.getComponentType().isPrimitive(); i++) {
                elements += walk(Array.get(object, i), seen);
            }
            return elements;
        }
        for (Field field : type.getDeclaredFields()) {
            if (!Modifier.isStatic(field.getModifiers())) {
                field.setAccessible(true);
                elements += 1 + (field.getType().isPrimitive() ? 0 : walk(field.get(object), seen));
            }
        }
        return elements;
    }

    private static void callsMakeNothing() {
        com.sun.management.ThreadMXBean threads =
                (com.sun.management.ThreadMXBean) ManagementFactory.getThreadMXBean();
        BandstandLawn lawn = new BandstandLawn();
        dear(lawn);
        long before = threads.getCurrentThreadAllocatedBytes();
        for (int i = 0; i < 10; i++) {
            dear(lawn);
        }
        long made = threads.getCurrentThreadAllocatedBytes() - before;
        System.out.println("bytes made by dear calls: " + made);
        yes("calls make nothing, but for the test's own: " + made, made < 200000);
    }

    private static void dear(BandstandLawn lawn) {
        String law = "if left<top*2-3 then (1+2)*which/2 else if 1<time then 1+moved else tunes*beat;";
        Check.read(lawn, "lawn 5 5;tune 0 0 5 0;tune 0 1 6 0;tune 0 2 5 1;tune 0 3 2 0;tune 1 4 3 0;tune 3 3 4 0;"
                + "goer a 0 0;goer b 1 1;goer c 2 2;goer d 3 3;goer e 4 4;wet 30;steps=" + law + "moves=" + law
                + "spreads=" + law + "costs=" + law);
        for (int i = 0; i < 100; i++) {
            lawn.mows(i % 25, 24 - i % 25, 100, 1);
            lawn.year(4, 100, 20);
            lawn.leave(i % 25, 24, 0);
            lawn.way(i % 25, 24, 1);
            lawn.part(0, i % 25);
            lawn.pairs(0);
            lawn.never(100);
            lawn.then(0, 100, 0);
            lawn.centre(0);
            lawn.meet(0, 1, 0);
            lawn.silence(0);
            lawn.tell(i % 60, true);
            lawn.listen(0);
            lawn.beats(1);
            lawn.hold(0);
        }
    }
}
