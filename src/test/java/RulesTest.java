import java.lang.management.ManagementFactory;
import java.lang.reflect.Field;
import java.lang.reflect.Member;
import java.lang.reflect.Method;
import java.lang.reflect.Modifier;
import java.nio.charset.StandardCharsets;
import java.nio.file.Files;
import java.nio.file.Path;
import java.util.Set;
import java.util.TreeSet;
import java.util.regex.Pattern;

/** The face of the document, what of LANGUAGE.md can be seen from outside or in the text, and the room of a run. */
public final class RulesTest {
    private static final String FACE = "append(int) clearText() errorPosition() load() position(int) clock()"
        + " queueLength() itemAt(int) rampIndex() topIndex() interval(int) approximateInterval(int)"
        + " setAcceleration(int) setSpeedLimit(int) addMove(int,int) addWait(int) step() run(int) stop()"
        + " removeItem(int) undo() ticksLeft() moveTicks(int) positionAfter(int,int) leastAcceleration(int,int)"
        + " greatestLength(int) runScript(int,long) randomSpeeds(long,int) save(int) restore(int)";

    public static void main(String[] args) throws Exception {
        faceIsTheDocuments();
        membersAreHidden();
        textKeepsToTheLanguage();
        callsMakeNoObjects();
        Check.end();
    }

    private static void faceIsTheDocuments() {
        Set<String> found = new TreeSet<>();
        for (Method m : StepperPlanner.class.getDeclaredMethods()) {
            if (!Modifier.isPrivate(m.getModifiers())) {
                Check.holds(m + " is public", Modifier.isPublic(m.getModifiers()));
                Check.holds(m + " answers an int", m.getReturnType() == int.class);
                StringBuilder name = new StringBuilder(m.getName()).append('(');
                for (Class<?> type : m.getParameterTypes()) {
                    name.append(name.charAt(name.length() - 1) == '(' ? "" : ",").append(type.getName());
                }
                found.add(name.append(')').toString());
            }
        }
        Check.holds("methods of the face: " + found, found.equals(new TreeSet<>(Set.of(FACE.split(" ")))));
        Check.due("public constructors", StepperPlanner.class.getConstructors().length, 1);
        Check.due("constructors", StepperPlanner.class.getDeclaredConstructors().length, 1);
        Check.due("public constants", StepperPlanner.class.getFields().length, 5);
        Check.holds("final class", Modifier.isFinal(StepperPlanner.class.getModifiers()));
    }

    private static void membersAreHidden() {
        Set<String> publicNames = new TreeSet<>();
        for (Method m : StepperPlanner.class.getMethods()) {
            publicNames.add(m.getName());
        }
        Class<?>[] inside = StepperPlanner.class.getDeclaredClasses();
        Check.holds("at most 12 classes", inside.length < 12);
        for (Class<?> c : inside) {
            Check.holds(c + " is static", Modifier.isStatic(c.getModifiers()));
            Check.holds(c + " is not public", !Modifier.isPublic(c.getModifiers()));
            for (Method m : c.getDeclaredMethods()) {
                Check.holds(m + " has a name of its own", !publicNames.contains(m.getName()));
            }
            staticFieldsAreFinal(c);
        }
        staticFieldsAreFinal(StepperPlanner.class);
        for (Method m : StepperPlanner.class.getDeclaredMethods()) {
            if (Modifier.isPrivate(m.getModifiers())) {
                Check.holds(m + " has a name of its own", !publicNames.contains(m.getName()));
            }
        }
        for (Field f : StepperPlanner.class.getDeclaredFields()) {
            Check.holds(f + " is hidden or a constant", isPrivate(f) || Modifier.isFinal(f.getModifiers()));
        }
    }

    private static boolean isPrivate(Member m) {
        return Modifier.isPrivate(m.getModifiers());
    }

    private static void staticFieldsAreFinal(Class<?> c) {
        int own = 0;
        for (Field f : c.getDeclaredFields()) {
            if (Modifier.isStatic(f.getModifiers())) {
                Check.holds(f + " is final", Modifier.isFinal(f.getModifiers()));
            } else {
                own++;
            }
        }
        Check.holds(c + " has at most 20 fields", own <= 20);
    }

    private static void textKeepsToTheLanguage() throws Exception {
        Path file = Path.of("src/main/java/StepperPlanner.java");
        String text = Files.readString(file, StandardCharsets.ISO_8859_1);
        String code = text.replaceAll("(?s)/\\*.*?\\*/", "").replaceAll("//[^\n]*", "");
        String[] words = {"throw", "throws", "try", "catch", "finally", "synchronized", "assert", "import", "package",
            "protected", "record", "interface", "Exact", "System", "Thread", "Random", "Float", "Double", "equals",
            "hashCode", "toString"};
        for (String word : words) {
            Check.holds("no '" + word + "'", !Pattern.compile("\\b" + word + "(\\b|$)").matcher(code).find());
        }
        Check.holds("no static initialiser", !Pattern.compile("\\bstatic\\s*\\{").matcher(code).find());
        Check.holds("no lambda, no method reference", !code.contains("->") && !code.contains("::"));
        Check.holds("only signs 1 to 127", text.chars().allMatch(c -> c >= 1 && c <= 127));
        int lines = 0;
        for (String line : code.split("\n")) {
            // A method's body stands between a line with its head and one with its closing brace.
            boolean head = line.matches("( {4}| {8})\\S.*\\) \\{") && !line.matches(" +(if|for|while|switch|\\}).*");
            lines = head ? 0 : lines + 1;
            Check.holds("short method before: " + line, lines <= 60 || !line.matches("( {4}| {8})\\}"));
            Check.holds("at most 120 signs: " + line, line.length() <= 120);
        }
    }

    /** One room holds the objects of all calls of a run, so the rows are made once. */
    private static void callsMakeNoObjects() {
        com.sun.management.ThreadMXBean threads =
            (com.sun.management.ThreadMXBean) ManagementFactory.getThreadMXBean();
        long id = Thread.currentThread().getId();
        long sum = dearCalls(new StepperPlanner());
        StepperPlanner p = new StepperPlanner();
        threads.getThreadAllocatedBytes(id);
        long before = threads.getThreadAllocatedBytes(id);
        long again = dearCalls(p);
        long bytes = threads.getThreadAllocatedBytes(id) - before;
        Check.due("the same calls again", again, sum);
        Check.holds("bytes allocated by some 500 calls: " + bytes, bytes < 20000);
    }

    private static long dearCalls(StepperPlanner p) {
        long sum = 0;
        for (int c = 0; c < 8; c++) {
            sum += p.append("a050v010".charAt(c));
        }
        for (int i = 0; i < 28; i++) {
            sum += p.addMove(999, -i) + p.addWait(9999) + p.setAcceleration(1 + i * 30) + p.setSpeedLimit(999 - i);
            sum += p.step() + p.run(50000) + p.stop() + p.removeItem(0) + p.undo() + p.ticksLeft();
            sum += p.positionAfter(1, 99999) + p.leastAcceleration(600, 20000 + i) + p.greatestLength(9999 + i);
            sum += p.runScript(4, 1001199930006000L) + p.randomSpeeds(i, 500) + p.save(i % 2) + p.restore(i % 3);
            sum += p.load();
        }
        return sum;
    }
}
