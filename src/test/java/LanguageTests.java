import java.io.IOException;
import java.io.PrintWriter;
import java.io.StringWriter;
import java.lang.management.ManagementFactory;
import java.lang.reflect.Method;
import java.lang.reflect.Modifier;
import java.nio.file.Files;
import java.nio.file.Path;
import java.util.ArrayList;
import java.util.Collections;
import java.util.List;
import java.util.Map;
import java.util.Random;
import java.util.Set;
import java.util.TreeMap;
import java.util.TreeSet;
import java.util.regex.Matcher;
import java.util.regex.Pattern;
import java.util.spi.ToolProvider;

/** The public face, what of ../shared/LANGUAGE.md can be seen by a program, the room, and that no call throws. */
final class LanguageTests {
    private static final String FACE = "act(int,int,int)int age(int,int)int again()int all()int alterRow(int,int,int)int "
        + "bring(int,int)int cover(int,int)int does(int,int)int feed(long,int)int fewest(int,int)int finder(int)int "
        + "fits(int,int,int)int hope(int,int)long item(int,int,int)int judge(int)int keep()int kindFor(int)int lawOf(int)int "
        + "many(int)int mind(int,int,int)int minds(int,int,int,int)int needed(int)int nights(int)int odds(int,int,int)long "
        + "of(int,int)int park()int person(int,int,int,int,int)int place(int,int)int prove(int,int)int put(int,int,int)int "
        + "round(int)int row(int,int)int safeFor(int)int seed(int)int seek(int,int)int set(int,int)int sheet(int,int,int)int "
        + "shelf(int,int,int)int shown(int)int state(int)int taken(int,int)int trace(int)int where(int,int)int "
        + "witFor(int,int)int year()int years(int)int";

    private LanguageTests() {
    }

    public static void main(String[] args) throws Exception {
        face();
        faceAsWritten();
        words();
        library();
        callsInARow();
        noCallThrows();
        noCallMakesObjects();
        Check.end();
    }

    private static void face() {
        List<String> face = new ArrayList<>();
        List<String> names = new ArrayList<>();
        for (Method m : LateSeekers.class.getDeclaredMethods()) {
            if (Modifier.isPrivate(m.getModifiers())) {
                names.add(m.getName());
                continue;
            }
            StringBuilder s = new StringBuilder(m.getName()).append('(');
            for (Class<?> p : m.getParameterTypes()) s.append(s.charAt(s.length() - 1) == '(' ? "" : ",").append(p);
            face.add(s.append(')').append(m.getReturnType()).toString());
            Check.holds("public and not static: " + m, Modifier.isPublic(m.getModifiers()) && !Modifier.isStatic(m.getModifiers()));
        }
        List<String> due = new ArrayList<>(List.of(FACE.split(" ")));
        Collections.sort(face);
        Collections.sort(due);
        Check.holds("the face is the document's: " + face, face.equals(due));
        for (String name : names) Check.holds("no private method named " + name, !(" " + FACE).contains(" " + name + "("));
        for (Class<?> inside : LateSeekers.class.getDeclaredClasses()) {
            Check.holds("static: " + inside, Modifier.isStatic(inside.getModifiers()));
            for (Method m : inside.getDeclaredMethods()) {
                Check.holds("no method inside named " + m.getName(), !(" " + FACE).contains(" " + m.getName() + "("));
                Check.holds("seven parameters at most: " + m, m.getParameterCount() <= 7);
            }
        }
        int constants = 0;
        for (java.lang.reflect.Field f : LateSeekers.class.getDeclaredFields()) {
            if (Modifier.isPublic(f.getModifiers())) constants++;
            else Check.holds("private: " + f, Modifier.isPrivate(f.getModifiers()));
        }
        Check.due("constants", constants, 3);
        Check.due("BAD", LateSeekers.BAD, -1);
        Check.due("FULL", LateSeekers.FULL, -2);
        Check.due("NONE", LateSeekers.NONE, -3);
    }

    /** Each line of the document's face stands in the class as it is, with the names of its numbers. */
    private static void faceAsWritten() throws IOException {
        String doc = Files.readString(Path.of("../shared/DOC.md"));
        String source = Files.readString(Path.of("src/main/java/LateSeekers.java"));
        int from = doc.indexOf("```java\n") + 8;
        int lines = 0;
        for (String line : doc.substring(from, doc.indexOf("```", from)).split("\n")) {
            boolean body = line.endsWith(");");
            String due = body ? line.substring(0, line.length() - 1) + " {" : line;
            Check.holds("as the document writes it: " + line, source.contains("\n" + due + "\n") || source.startsWith(due));
            if (body) lines++;
        }
        Check.due("methods and the constructor in the document", lines, FACE.split(" ").length + 1);
    }

    private static void words() throws IOException {
        String source = Files.readString(Path.of("src/main/java/LateSeekers.java"));
        Check.holds("signs are 1 to 127", source.chars().allMatch(c -> c >= 1 && c <= 127));
        String code = source.replaceAll("(?s)/\\*.*?\\*/", "").replaceAll("//.*", "");
        Matcher banned = Pattern.compile("\\b(throw|throws|try|catch|synchronized|assert|import|package|protected|var)\\b|->|::|Exact\\b")
            .matcher(code);
        while (banned.find()) Check.holds("no " + banned.group(), false);
        Matcher inner = Pattern.compile("(?m)^ +(.*)\\bclass (\\w+)").matcher(code);
        int classes = 1;
        for (; inner.find(); classes++) Check.holds("static class " + inner.group(2), inner.group(1).contains("static"));
        Check.holds("twelve classes at most", classes <= 12);
        int lines = 0;
        for (String line : source.split("\n")) {
            lines = line.matches("    (    )?\\}") ? 0 : lines + 1;
            Check.holds("methods stay short, at: " + line, lines <= 75);
        }
    }

    /** Rule 4 (and what the compiler itself calls for a new object). */
    private static final Pattern LIBRARY = Pattern.compile("java/lang/(Object\\.\"<init>\"|(Integer|Long|Math)\\.\\w+(?<!Exact)"
        + "|String\\.(length|charAt|isEmpty|equals|indexOf|substring|toCharArray|\"<init>\")"
        + "|StringBuilder\\.(append|charAt|setCharAt|setLength|deleteCharAt|reverse|length|toString|\"<init>\")"
        + "|System\\.arraycopy)"
        + "|java/util/(ArrayList|List)\\.(add|get|set|remove|size|isEmpty|clear|of|\"<init>\")"
        + "|java/util/Arrays\\.(copyOf|copyOfRange|fill)|\"\\[\\w\"\\.clone");

    /** What each method of the class and of those inside it calls, as the compiler wrote it. */
    private static Map<String, Set<String>> calls() {
        List<String> args = new ArrayList<>(List.of("-c", "-p", "-cp", System.getProperty("java.class.path"), "LateSeekers"));
        for (Class<?> inside : LateSeekers.class.getDeclaredClasses()) args.add(inside.getName());
        StringWriter listing = new StringWriter();
        PrintWriter out = new PrintWriter(listing);
        ToolProvider.findFirst("javap").orElseThrow().run(out, out, args.toArray(new String[0]));
        Map<String, Set<String>> calls = new TreeMap<>();
        String in = "";
        String method = "";
        for (String line : listing.toString().split("\\R")) {
            Matcher type = Pattern.compile("(?:\\w+ )*class (\\S+).*\\{").matcher(line);
            Matcher head = Pattern.compile("  (?:\\S+ )*([\\w$]+)\\(.*\\);").matcher(line);
            Matcher call = Pattern.compile(".*: invoke.*Method (?:(\\S+)\\.)?(\\S+):.*").matcher(line);
            if (type.matches()) {
                in = type.group(1);
            } else if (head.matches()) {
                method = in + "." + (head.group(1).equals(in) ? "\"<init>\"" : head.group(1));
                calls.put(method, new TreeSet<>());
            } else if (call.matches()) {
                calls.get(method).add((call.group(1) == null ? in : call.group(1)) + "." + call.group(2));
            }
        }
        return calls;
    }

    private static void library() {
        for (Map.Entry<String, Set<String>> e : calls().entrySet()) {
            for (String call : e.getValue()) {
                boolean own = call.startsWith("LateSeekers");
                Check.holds(e.getKey() + " may call " + call, own || LIBRARY.matcher(call).matches());
            }
        }
    }

    /** Rule 11: eight at most, where a method that calls itself counts once; rule 8: no others go round. */
    private static void callsInARow() {
        Map<String, Set<String>> calls = calls();
        Check.holds("methods are seen: " + calls.size(), calls.size() > FACE.split(" ").length);
        for (String method : calls.keySet()) {
            int most = mostInARow(calls, method, 0);
            Check.holds(method + ": " + most + " calls in a row", most <= 8);
        }
    }

    private static int mostInARow(Map<String, Set<String>> calls, String method, int open) {
        int most = 1;
        if (open > 20) return most;
        for (String call : calls.getOrDefault(method, Set.of())) {
            if (!call.equals(method)) most = Math.max(most, 1 + mostInARow(calls, call, open + 1));
        }
        return most;
    }

    private static final int[] ODD = {0, 1, -1, 2, 3, 5, 7, 8, 11, 12, 40, 60, 99, 200, Integer.MIN_VALUE, Integer.MAX_VALUE, -15, 1 << 30};

    private static List<Method> face(LateSeekers x) {
        List<Method> methods = new ArrayList<>();
        for (Method m : x.getClass().getDeclaredMethods()) if (Modifier.isPublic(m.getModifiers())) methods.add(m);
        methods.sort((a, b) -> a.getName().compareTo(b.getName()));
        return methods;
    }

    private static void noCallThrows() throws Exception {
        Random random = new Random(4);
        for (int run = 0; run < 1500; run++) {
            LateSeekers x = new LateSeekers();
            List<Method> methods = face(x);
            for (int i = 0; i < 100; i++) {
                Method m = methods.get(random.nextInt(methods.size()));
                Object[] args = new Object[m.getParameterCount()];
                for (int k = 0; k < args.length; k++) {
                    int v = random.nextInt(4) == 0 ? ODD[random.nextInt(ODD.length)] : random.nextInt(6);
                    if (m.getParameterTypes()[k] == long.class) args[k] = random.nextLong();
                    else args[k] = v;
                }
                try {
                    m.invoke(x, args);
                } catch (java.lang.reflect.InvocationTargetException e) {
                    Check.holds(m.getName() + java.util.Arrays.toString(args) + " threw " + e.getCause(), false);
                }
                if (i % 9 == 0) x.person(i % 6, i % 100, i % 10, i % 12, i % 2);
            }
        }
    }

    /** Behind its constructor the class makes nothing: the room is full after no number of calls. */
    private static void noCallMakesObjects() {
        com.sun.management.ThreadMXBean bean = (com.sun.management.ThreadMXBean) ManagementFactory.getThreadMXBean();
        long id = Thread.currentThread().getId();
        callAll(new LateSeekers());
        LateSeekers x = new LateSeekers();
        long none = -bean.getThreadAllocatedBytes(id) + bean.getThreadAllocatedBytes(id);
        long before = bean.getThreadAllocatedBytes(id);
        callAll(x);
        // the machine's own measuring may leave a few bytes; one object in each of these calls would be thousands
        Check.holds("calls make no objects", bean.getThreadAllocatedBytes(id) - before - none < 256);
    }

    private static void callAll(LateSeekers x) {
        for (int i = 0; i < 8; i++) x.person(i % 6, i, i, i, i % 2);
        for (int i = 0; i < 8; i++) {
            x.of(i, 1);
            x.does(i, 1);
            x.mind(i, 0, 4);
            x.where(i, 60);
            x.shown(i);
            x.finder(i);
            x.safeFor(i);
            x.kindFor(i);
            x.witFor(i, 20);
            x.needed(i);
            x.fewest(i, 20);
            x.sheet(i % 4, i % 4, 40);
            x.put(i % 4, 3, 4);
            x.fits(i % 4, i, 0);
            x.prove(i, 10);
            x.judge(i);
            x.minds(0, 0, 0, 4);
            x.shelf(i % 4, i % 2, i % 4);
            x.taken(i % 4, 0);
            x.act(i % 4, 3, 4);
            x.round(i);
            x.odds(8, i, 0);
            x.hope(i, 1);
            x.state(i);
            x.many(i);
            x.nights(30);
            x.year();
            x.keep();
        }
        x.all();
        x.again();
        // "lady at3;" in two goes
        x.feed(0x337461207964616cL, 8);
        x.feed(0x3bL, 1);
        x.park();
        x.years(60);
    }
}
