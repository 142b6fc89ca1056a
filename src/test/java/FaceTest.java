import java.lang.reflect.Constructor;
import java.lang.reflect.Field;
import java.lang.reflect.Method;
import java.lang.reflect.Modifier;
import java.nio.charset.StandardCharsets;
import java.nio.file.Files;
import java.nio.file.Path;
import java.util.Set;
import java.util.TreeSet;
import java.util.regex.Matcher;
import java.util.regex.Pattern;

/** The public face, and those rules of LANGUAGE.md that a look at the class or its source can test. */
public final class FaceTest {
    private static final Set<String> METHODS = Set.of("feed(int)", "valley()", "fault()", "told(int)", "winter(int)", "village(int,int)",
            "person(int,int)", "debt(int,int)", "night(int)", "move(int,int)", "saw(int,int)", "pay(int)", "lend(int,int)", "drift(int)", "undo()",
            "due(int)", "old(int,int)", "feast(int,int)", "mild(int,int,int)", "mildDebts(int,int)", "older(int,int)", "chance(int,int)", "poles()",
            "longest(int)", "say(int,int)", "sawn(int)", "ask()", "write(int,int)", "tear()", "judge()", "seed(int)", "keep(int)", "goBack(int)");

    public static void main(String[] args) throws Exception {
        face();
        names();
        source(Files.readString(Path.of(System.getProperty("root"), "src/main/java/SnowDays.java"), StandardCharsets.UTF_8));
        room();
        Check.finish("FaceTest");
    }

    private static void face() {
        Set<String> found = new TreeSet<>();
        for (Method method : SnowDays.class.getDeclaredMethods()) {
            if (!Modifier.isPrivate(method.getModifiers())) {
                Check.holds(method + " is public", method.getModifiers() == Modifier.PUBLIC && method.getReturnType() == int.class);
                String text = method.toString();
                found.add(method.getName() + text.substring(text.indexOf('(')));
            }
        }
        Check.holds("the methods are those of the face: " + found, found.equals(METHODS));
        Check.holds("public and final", (SnowDays.class.getModifiers() & (Modifier.PUBLIC | Modifier.FINAL)) == (Modifier.PUBLIC | Modifier.FINAL));
        Constructor<?>[] makers = SnowDays.class.getDeclaredConstructors();
        Check.holds("one constructor", makers.length == 1 && makers[0].getModifiers() == Modifier.PUBLIC && makers[0].getParameterCount() == 0);
        Set<String> shown = new TreeSet<>();
        for (Field field : SnowDays.class.getDeclaredFields()) {
            if (!Modifier.isPrivate(field.getModifiers())) {
                shown.add(field.getName());
            }
        }
        Check.holds("the constants are those of the face: " + shown, shown.equals(Set.of("NONE", "UNKNOWN", "OUTSIDE", "NOT", "FULL")));
        Check.same("NONE", SnowDays.NONE, -1);
        Check.same("UNKNOWN", SnowDays.UNKNOWN, -1000000001);
        Check.same("OUTSIDE", SnowDays.OUTSIDE, -1000000002);
        Check.same("NOT", SnowDays.NOT, -1000000003);
        Check.same("FULL", SnowDays.FULL, -1000000004);
    }

    private static void names() {
        Set<String> open = new TreeSet<>();
        for (String method : METHODS) {
            open.add(method.substring(0, method.indexOf('(')));
        }
        Class<?>[] inside = SnowDays.class.getDeclaredClasses();
        Check.holds("at most twelve classes", inside.length < 12);
        for (Class<?> each : inside) {
            Check.holds(each + " is static", Modifier.isStatic(each.getModifiers()));
            Check.holds(each + " has at most twenty fields", each.getDeclaredFields().length <= 20);
            for (Method method : each.getDeclaredMethods()) {
                Check.holds(method + " bears no public name", !open.contains(method.getName()));
                Check.holds(method + " takes at most seven", method.getParameterCount() <= 7);
            }
        }
        for (Method method : SnowDays.class.getDeclaredMethods()) {
            Check.holds(method + " bears no public name", !Modifier.isPrivate(method.getModifiers()) || !open.contains(method.getName()));
        }
    }

    private static void source(String source) {
        String code = source.replaceAll("(?s)/\\*.*?\\*/", "").replaceAll("//[^\n]*", "");
        for (String word : new String[] {"throw", "throws", "try", "catch", "synchronized", "assert", "package", "Random", "System.out", "Thread"}) {
            Check.holds("no word " + word, !Pattern.compile("\\b" + Pattern.quote(word) + "\\b").matcher(code).find());
        }
        Check.holds("no lambda, no method reference", !code.contains("->") && !code.contains("::"));
        Matcher imports = Pattern.compile("import ([\\w.]+);").matcher(code);
        while (imports.find()) {
            Check.holds("import " + imports.group(1), imports.group(1).equals("java.util.Arrays"));
        }
        for (int k = 0; k < source.length(); k++) {
            Check.holds("a plain letter at " + k, source.charAt(k) < 128);
        }
    }

    /** The calls themselves make nothing, so a run's room is what the constructors made: 4096 numbers each at most. */
    private static void room() {
        com.sun.management.ThreadMXBean bean = (com.sun.management.ThreadMXBean) java.lang.management.ManagementFactory.getThreadMXBean();
        everyCall(Check.of(Check.SLOPE));
        long ahead = bean.getCurrentThreadAllocatedBytes();
        SnowDays x = new SnowDays();
        long made = bean.getCurrentThreadAllocatedBytes() - ahead;
        Check.holds("an object is small, not " + made + " bytes", made < 4096 * Integer.BYTES);
        everyCall(x);
        ahead = bean.getCurrentThreadAllocatedBytes();
        everyCall(x);
        everyCall(x);
        made = bean.getCurrentThreadAllocatedBytes() - ahead;
        Check.holds("the calls make next to nothing, not " + made + " bytes", made < 1024);
    }

    private static void everyCall(SnowDays x) {
        for (int k = 0; k < Check.SLOPE.length(); k++) {
            x.feed(Check.SLOPE.charAt(k));
        }
        x.valley();
        x.night(60);
        x.move(0, 1);
        x.saw(1, 2);
        x.pay(0);
        x.lend(0, 9);
        x.drift(60);
        x.undo();
        x.due(2);
        x.old(0, 200);
        x.feast(0, 1);
        x.mild(0, 3, 200);
        x.mildDebts(3, 200);
        x.chance(2, 30);
        x.poles();
        x.longest(2);
        x.say(0, 6);
        x.sawn(0);
        x.ask();
        x.write(0, 6);
        x.judge();
        x.tear();
        x.keep(0);
        x.goBack(0);
        x.told(6);
        x.told(7);
    }
}
