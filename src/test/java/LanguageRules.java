import java.lang.management.ManagementFactory;
import java.lang.reflect.Constructor;
import java.lang.reflect.Field;
import java.lang.reflect.Method;
import java.lang.reflect.Modifier;
import java.nio.file.Files;
import java.nio.file.Path;
import java.util.ArrayList;
import java.util.Arrays;
import java.util.HashSet;
import java.util.List;
import java.util.Set;
import java.util.TreeSet;
import java.util.regex.Matcher;
import java.util.regex.Pattern;

/** What of LANGUAGE.md can be seen by reading the source or by asking the compiled class. */
public final class LanguageRules {
    private static final String FACE = "terms(int,int)int feed(int,int,int,int,int)int end(int)int tape(int)int task(int,int)int join(int)int "
        + "leave(int)int weigh(int,int)int slice(int,int)int wish(int,int)int yields(int)int quota(int,int,int)int script(int)int "
        + "listing(int)int fault()int ticks(int)int undo()int image(int)int back(int)int of(int,int)int exact(int,int)long time(int)long "
        + "eligible()int earliest(int)int rank(int)int ran(int)int service(int,int,int)int share(int,int,int)long worst(int,int)long "
        + "ahead(int)int finish(int)int due(int)int least(int,int,int)int would(int,int,int)int count(int)int status()int";
    private static final int MOST_LINES = 60;
    private static final int MOST_DEEP = 8;
    private static int wrong = 0;

    public static void main(String[] args) throws Exception {
        face();
        classes();
        source();
        depth();
        room();
        System.out.println(wrong == 0 ? "the rules of the language are kept" : wrong + " rules are broken");
        if (wrong != 0) System.exit(1);
    }

    private static void must(boolean holds, String rule) {
        if (!holds) {
            wrong++;
            System.out.println("broken: " + rule);
        }
    }

    private static void face() {
        Class<?> c = DeadlineShare.class;
        must(Modifier.isPublic(c.getModifiers()) && Modifier.isFinal(c.getModifiers()), "1: public and final");
        Set<String> face = new TreeSet<>(Arrays.asList(FACE.split(" ")));
        Set<String> found = new TreeSet<>();
        for (Method m : c.getDeclaredMethods()) {
            if (Modifier.isPrivate(m.getModifiers())) continue;
            StringBuilder b = new StringBuilder(m.getName()).append('(');
            for (int i = 0; i < m.getParameterCount(); i++) b.append(i > 0 ? "," : "").append(m.getParameterTypes()[i].getName());
            found.add(b.append(')').append(m.getReturnType().getName()).toString());
            must(Modifier.isPublic(m.getModifiers()) && !Modifier.isStatic(m.getModifiers()), "1: public: " + m.getName());
        }
        must(found.equals(face), "1: the methods of the face: " + found);
        Set<String> fields = new TreeSet<>();
        for (Field f : c.getDeclaredFields()) if (!Modifier.isPrivate(f.getModifiers())) fields.add(f.getName());
        must(fields.equals(Set.of("NONE", "NOTHING")), "1: the constants of the face: " + fields);
        Constructor<?>[] made = c.getDeclaredConstructors();
        must(made.length == 1 && made[0].getParameterCount() == 0 && Modifier.isPublic(made[0].getModifiers()), "1: the constructor");
    }

    private static void classes() {
        List<Class<?>> all = new ArrayList<>(List.of(DeadlineShare.class.getDeclaredClasses()));
        Set<String> open = new HashSet<>();
        for (String f : FACE.split(" ")) open.add(f.substring(0, f.indexOf('(')));
        for (Class<?> c : all) {
            must(Modifier.isStatic(c.getModifiers()), "2: static: " + c);
            must(!Modifier.isPublic(c.getModifiers()) && !Modifier.isProtected(c.getModifiers()), "1: not public: " + c);
            must(c.getDeclaredClasses().length == 0, "2: no class in " + c);
            for (Method m : c.getDeclaredMethods()) must(!open.contains(m.getName()), "1: the name of a public method: " + m);
        }
        all.add(DeadlineShare.class);
        must(all.size() <= 12, "11: twelve classes");
        for (Class<?> c : all) {
            int fields = 0;
            for (Field f : c.getDeclaredFields()) {
                if (!Modifier.isStatic(f.getModifiers())) fields++;
                else must(Modifier.isFinal(f.getModifiers()), "5: final: " + f);
            }
            must(fields <= 20, "11: twenty fields: " + c);
            for (Method m : c.getDeclaredMethods()) {
                must(m.getParameterCount() <= 7, "11: seven parameters: " + m);
                must(!m.isSynthetic(), "2: nothing that the compiler adds: " + m);
                must(c != DeadlineShare.class || !Modifier.isPrivate(m.getModifiers()) || !open.contains(m.getName()), "1: the name of a public method: " + m);
            }
        }
    }

    private static String read() throws Exception {
        return Files.readString(Path.of(System.getProperty("source", "src/main/java/DeadlineShare.java")));
    }

    private static String withoutComments(String text) {
        return text.replaceAll("(?s)/\\*.*?\\*/", "").replaceAll("//[^\n]*", "");
    }

    private static void source() throws Exception {
        String text = read();
        for (char c : text.toCharArray()) must(c < 128, "4: a sign above 127");
        String code = withoutComments(text);
        for (String word : "throw throws try catch finally synchronized assert import package transient volatile native hashCode double float".split(" ")) {
            must(!Pattern.compile("\\b" + word + "\\b").matcher(code).find(), "6, 13: " + word);
        }
        must(!code.contains("->") && !code.contains("::"), "2: no lambda, no method reference");
        must(!Pattern.compile("Exact\\b").matcher(code).find(), "4: nothing that ends in Exact");
        must(!Pattern.compile("\"\\s*\\+|\\+\\s*\"").matcher(code).find(), "10: no joining of texts by +");
        for (List<String> m : methods(code)) must(m.size() <= MOST_LINES, "11: a long method: " + m.get(0));
    }

    private static final Pattern HEAD = Pattern.compile("^( {4}| {8})(?:(?:public|private|static|final) )*[\\w\\[\\]]+(?: (\\w+))?\\(.*\\) \\{$");

    /** The lines of each method: from its head to the brace that stands as far in as it. */
    private static List<List<String>> methods(String code) {
        List<List<String>> all = new ArrayList<>();
        List<String> open = null;
        String close = null;
        for (String line : code.split("\n")) {
            Matcher m = HEAD.matcher(line);
            if (open == null && m.matches()) {
                open = new ArrayList<>();
                close = m.group(1) + "}";
            }
            if (open == null) continue;
            open.add(line);
            if (line.equals(close)) {
                all.add(open);
                open = null;
            }
        }
        return all;
    }

    /** Names that several classes use are taken for the deepest of them, so the true depth is not above this. */
    private static void depth() throws Exception {
        List<String> names = new ArrayList<>();
        List<Set<String>> calls = new ArrayList<>();
        for (List<String> m : methods(withoutComments(read()))) {
            Matcher head = HEAD.matcher(m.get(0));
            if (!head.matches() || head.group(2) == null) continue;
            Set<String> called = new TreeSet<>();
            Matcher c = Pattern.compile("(?<!new )\\b(\\w+)\\(").matcher(String.join("\n", m.subList(1, m.size())));
            while (c.find()) called.add(c.group(1));
            names.add(head.group(2));
            calls.add(called);
        }
        must(names.size() > 100, "the methods are found: " + names.size());
        int deepest = 0;
        for (int i = 0; i < names.size(); i++) deepest = Math.max(deepest, deep(names.get(i), names, calls, 1));
        must(deepest <= MOST_DEEP, "11: calls go " + deepest + " deep");
    }

    private static int deep(String name, List<String> names, List<Set<String>> calls, int level) {
        int deepest = level;
        if (level > 12) return level;
        for (int i = 0; i < names.size(); i++) {
            if (!names.get(i).equals(name)) continue;
            for (String called : calls.get(i)) {
                if (names.contains(called) && !called.equals(name)) deepest = Math.max(deepest, deep(called, names, calls, level + 1));
            }
        }
        return deepest;
    }

    /** A run makes nothing behind the constructor, and that makes little. */
    private static void room() {
        com.sun.management.ThreadMXBean beans = (com.sun.management.ThreadMXBean) ManagementFactory.getThreadMXBean();
        long me = Thread.currentThread().getId();
        long sum = play(new DeadlineShare()) + beans.getThreadAllocatedBytes(me);
        long start = beans.getThreadAllocatedBytes(me);
        DeadlineShare x = new DeadlineShare();
        long made = beans.getThreadAllocatedBytes(me);
        sum += play(x);
        long end = beans.getThreadAllocatedBytes(me);
        must(made - start < 200_000, "12: a new object takes " + (made - start) + " bytes");
        must(end - made < 2_000, "12: calls make " + (end - made) + " bytes, " + sum);
    }

    private static long play(DeadlineShare x) {
        long sum = 0;
        for (int i = 0; i < 12; i++) sum += x.task(1 + i % 2, 1 + i) + x.join(i) + x.quota(i, i % 3, 9);
        for (int i = 0; i < 60; i++) {
            x.feed(0x72756e20, 0x322c6e61, 0x7020332c, 0x61676169, 0x6e203120);
            sum += x.script(i % 12) + x.listing(i % 12) + x.ticks(60) + x.undo() + x.image(0) + x.ticks(7) + x.yields(i % 12);
            sum += x.finish(i % 12) + x.due(i % 12) + x.least(i % 12, 9, 60) + x.would(i % 5, 60, i % 4) + x.ahead(60);
            sum += x.worst(i % 12, 0) + x.share(i % 12, 0, 9) + x.service(i % 12, 0, 9) + x.earliest(2) + x.eligible();
            sum += x.of(i % 12, i % 15) + x.exact(i % 12, i % 4) + x.time(i % 4) + x.count(i % 17) + x.leave(i % 12) + x.wish(i % 12, 9);
            sum += x.back(0) + x.weigh(i % 12, 3) + x.slice(i % 12, 9) + x.rank(i % 12) + x.ran(i) + x.join(i % 12) + x.end(0);
        }
        return sum;
    }
}
