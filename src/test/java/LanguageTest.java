import java.lang.management.ManagementFactory;
import java.lang.reflect.Constructor;
import java.lang.reflect.Field;
import java.lang.reflect.Method;
import java.lang.reflect.Modifier;
import java.nio.file.Files;
import java.nio.file.Path;
import java.util.ArrayList;
import java.util.List;
import java.util.Set;
import java.util.TreeSet;
import java.util.regex.Matcher;
import java.util.regex.Pattern;

/** The face of the document, the rules of LANGUAGE.md that a machine can look after, and the room that calls take. */
public final class LanguageTest {
    private static final String SOURCE = "src/main/java/LastOfKind.java";
    private static final String[] FACE = {
        "int write(int)", "int wipe()", "int fault()", "int house()", "int thing(int,int)", "int alike(int)",
        "int price(int)", "int broken(int)", "int forge(int,int)", "int hide(int)", "int claim(int)", "int guard(int)",
        "int word(int)", "int year()", "int undo()", "int judge(int,int)", "int campaign(int)", "int campaignBy(int,int)",
        "int copy(int)", "int bestWord(int)", "int rests(int)", "int sight(int,int,boolean)", "int unsight()",
        "int worlds(int)", "int toSeek()", "int byTurns(int,int)", "int chance(int,int,boolean)", "long seed(long)",
        "int years(int,int)", "int keep(int)", "int again(int)", "int count(int)"};
    private static final String[] CONSTANTS = {"FULL=-4", "NONE=-9", "OUTSIDE=-2", "STATE=-3", "UNKNOWN=-1"};
    private static final String[] BANNED = {"\\bthrow\\b", "\\btry\\b", "\\bcatch\\b", "\\bsynchronized\\b", "\\bassert\\b",
        "->", "::", "\\bimport\\b", "\\bSystem\\b(?!\\.arraycopy)", "\\bvar\\b", "\\bObject\\b", "\\bnative\\b", "%[^=]*%\\s*0",
        "\\b(double|float)\\b", "Exact\\b"};

    private static int wrong = 0;

    public static void main(String[] args) throws Exception {
        face();
        classes();
        source();
        room();
        System.out.println(wrong == 0 ? "language: all rules looked after are kept" : "language: " + wrong + " faults");
        if (wrong != 0) {
            System.exit(1);
        }
    }

    private static void due(String what, Object got, Object want) {
        if (!want.equals(got)) {
            wrong++;
            System.out.println(what + " is " + got + ", due is " + want);
        }
    }

    private static String signature(Method method) {
        List<String> types = new ArrayList<>();
        for (Class<?> type : method.getParameterTypes()) {
            types.add(type.getName());
        }
        return method.getReturnType().getName() + " " + method.getName() + "(" + String.join(",", types) + ")";
    }

    private static void face() throws Exception {
        Class<?> type = LastOfKind.class;
        due("public and final", type.getModifiers(), Modifier.PUBLIC | Modifier.FINAL);
        Set<String> methods = new TreeSet<>();
        for (Method method : type.getDeclaredMethods()) {
            if (!Modifier.isPrivate(method.getModifiers())) {
                methods.add((Modifier.isPublic(method.getModifiers()) ? "" : "hidden ")
                    + (Modifier.isStatic(method.getModifiers()) ? "static " : "") + signature(method));
            }
        }
        due("the methods", methods, new TreeSet<>(List.of(FACE)));
        Set<String> constants = new TreeSet<>();
        for (Field field : type.getDeclaredFields()) {
            if (!Modifier.isPrivate(field.getModifiers())) {
                boolean constant = field.getModifiers() == (Modifier.PUBLIC | Modifier.STATIC | Modifier.FINAL);
                constants.add(field.getName() + "=" + (constant ? field.get(null) : "no constant"));
            }
        }
        due("the constants", constants, new TreeSet<>(List.of(CONSTANTS)));
        Constructor<?>[] constructors = type.getDeclaredConstructors();
        due("one constructor", constructors.length, 1);
        due("it is public and takes nothing", constructors[0].toString(), "public LastOfKind()");
    }

    private static void classes() {
        List<Class<?>> all = new ArrayList<>(List.of(LastOfKind.class.getDeclaredClasses()));
        due("at most twelve classes", all.size() + 1 <= 12, true);
        Set<String> publicNames = new TreeSet<>();
        for (String signature : FACE) {
            publicNames.add(signature.substring(signature.indexOf(' ') + 1, signature.indexOf('(')));
        }
        for (Class<?> inside : all) {
            int modifiers = inside.getModifiers();
            due(inside + " is static", Modifier.isStatic(modifiers), true);
            due(inside + " is not in the face", Modifier.isPublic(modifiers) || Modifier.isProtected(modifiers), false);
        }
        all.add(LastOfKind.class);
        for (Class<?> each : all) {
            int fields = 0;
            for (Field field : each.getDeclaredFields()) {
                boolean isStatic = Modifier.isStatic(field.getModifiers());
                fields += isStatic ? 0 : 1;
                due("static and not final: " + field, isStatic && !Modifier.isFinal(field.getModifiers()), false);
            }
            due(each + " has at most twenty fields", fields <= 20, true);
            for (Method method : each.getDeclaredMethods()) {
                boolean publicOne = each == LastOfKind.class && Modifier.isPublic(method.getModifiers());
                due("the name of a public one: " + method, !publicOne && publicNames.contains(method.getName()), false);
                due("at most seven parameters: " + method, method.getParameterCount() <= 7, true);
            }
        }
    }

    private static void source() throws Exception {
        String text = Files.readString(Path.of(SOURCE));
        due("no signs beyond 127", text.chars().allMatch(c -> c < 128), true);
        String bare = text.replaceAll("(?s)/\\*.*?\\*/", "").replaceAll("//[^\n]*", "").replaceAll("'.'", "0");
        for (String banned : BANNED) {
            Matcher matcher = Pattern.compile(banned).matcher(bare);
            due("banned: " + banned, matcher.find() ? matcher.group() : "nowhere", "nowhere");
        }
        String[] lines = text.split("\n");
        int begun = -1;
        for (int i = 0; i < lines.length; i++) {
            boolean begins = lines[i].matches("( {4}| {8})\\w[^;=]*\\) \\{");
            begun = begins ? i : begun;
            if (begun >= 0 && lines[i].matches("( {4}| {8})}") && lines[i].indexOf('}') == indent(lines[begun])) {
                due("at most sixty lines, line " + (begun + 1), i - begun + 1 <= 60, true);
                begun = -1;
            }
        }
    }

    private static int indent(String line) {
        return line.length() - line.stripLeading().length();
    }

    private static int callAll(LastOfKind x, int round) {
        int sum = x.write(round & 255) + x.fault() + x.house() + x.thing(0, 11) + x.alike(0) + x.price(0);
        sum += x.forge(1234, 1) + x.hide(0) + x.hide(0) + x.claim(0) + x.guard(1) + x.broken(2) + x.word(1 + round % 4);
        sum += x.year() + x.undo() + x.judge(4, 31323334) + x.campaign(0) + x.campaignBy(0, 1) + x.copy(0);
        sum += x.bestWord(0) + x.rests(0) + x.sight(0, 2, true) + x.worlds(1) + x.toSeek() + x.unsight();
        sum += x.byTurns(4, 1) + x.chance(0, 3, true) + (int) x.seed(round) + x.years(30, 1) + x.keep(0) + x.again(0);
        return sum + x.count(5) + x.wipe();
    }

    /** All calls of a run share one room, so no call makes an object: all rows stand ready from the beginning. */
    private static void room() {
        com.sun.management.ThreadMXBean bean = (com.sun.management.ThreadMXBean) ManagementFactory.getThreadMXBean();
        long thread = Thread.currentThread().getId();
        LastOfKind x = new LastOfKind();
        int sum = callAll(x, 0);
        bean.getThreadAllocatedBytes(thread);
        long before = bean.getThreadAllocatedBytes(thread);
        for (int round = 0; round < 15; round++) {
            sum += callAll(x, round);
        }
        long made = bean.getThreadAllocatedBytes(thread) - before;
        due("bytes made by 495 calls, " + made + ", are next to none (" + (sum != 0) + ")", made < 2000, true);
        before = bean.getThreadAllocatedBytes(thread);
        LastOfKind made1 = new LastOfKind();
        long size = bean.getThreadAllocatedBytes(thread) - before;
        due("bytes of a new object, " + size + ", are few (" + made1.count(2) + ")", size < 20000, true);
    }
}
