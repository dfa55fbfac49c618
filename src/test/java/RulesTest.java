import java.io.IOException;
import java.lang.management.ManagementFactory;
import java.lang.reflect.Constructor;
import java.lang.reflect.Field;
import java.lang.reflect.Method;
import java.lang.reflect.Modifier;
import java.nio.charset.StandardCharsets;
import java.nio.file.Files;
import java.nio.file.Path;
import java.util.ArrayList;
import java.util.List;
import java.util.TreeSet;
import java.util.regex.Matcher;
import java.util.regex.Pattern;

/** The public face, the rules of LANGUAGE.md that can be seen from outside or in the text, and what calls make. */
public final class RulesTest {
    private static final String[] FACE = {"feed(int)", "parish()", "fault()", "told(int)", "person(int,int)",
        "range(int)", "door(int)", "die(int)", "sell(int,int)", "putBy(int,int)", "will(int,int,int)", "drift(int)",
        "undo()", "after(int,int)", "whose(int,int)", "wills(int,int,int,int)", "sing(int)", "bid(int,int)",
        "live(int,int,int)", "see(int,boolean)", "spoke(int)", "knock()", "has(int,int)", "orders(int,int)",
        "write(int,int)", "tear()", "judge()", "seed(int)", "keep(int)", "goBack(int)"};
    private static final String[] CONSTANTS = {"NONE", "UNKNOWN", "OUTSIDE", "NOT", "FULL"};
    private static final String BANNED = "\\b(throw|throws|try|catch|synchronized|assert|import|package|protected|"
        + "lambda|Object|Exception|System\\.out|equals|hashCode|toString|record|double|float)\\b|->|::|Exact\\(";
    private static int wrong = 0;

    private static void check(boolean holds, String what) {
        if (!holds) {
            wrong++;
            System.out.println("RulesTest: " + what);
        }
    }

    private static String signature(Method method) {
        List<String> types = new ArrayList<>();
        for (Class<?> type : method.getParameterTypes()) {
            types.add(type.getName());
        }
        return method.getName() + "(" + String.join(",", types) + ")";
    }

    private static void checkFace() {
        Class<?> type = VoiceWills.class;
        check(Modifier.isPublic(type.getModifiers()) && Modifier.isFinal(type.getModifiers()), "public and final");
        TreeSet<String> due = new TreeSet<>(List.of(FACE));
        TreeSet<String> names = new TreeSet<>();
        for (String each : FACE) {
            names.add(each.substring(0, each.indexOf('(')));
        }
        TreeSet<String> found = new TreeSet<>();
        for (Method method : type.getDeclaredMethods()) {
            if (Modifier.isPrivate(method.getModifiers())) {
                check(!names.contains(method.getName()), "a private method has a public one's name: " + method.getName());
            } else {
                check(Modifier.isPublic(method.getModifiers()) && method.getReturnType() == int.class, "face: " + method);
                found.add(signature(method));
            }
        }
        check(found.equals(due), "the face is " + found);
        Constructor<?>[] constructors = type.getDeclaredConstructors();
        check(constructors.length == 1 && constructors[0].getParameterCount() == 0, "one constructor");
        TreeSet<String> constants = new TreeSet<>();
        for (Field field : type.getDeclaredFields()) {
            if (!Modifier.isPrivate(field.getModifiers())) {
                constants.add(field.getName());
            }
        }
        check(constants.equals(new TreeSet<>(List.of(CONSTANTS))), "the constants are " + constants);
    }

    private static void checkClasses() {
        List<Class<?>> all = new ArrayList<>(List.of(VoiceWills.class.getDeclaredClasses()));
        check(all.size() < 12, "too many classes: " + all.size());
        for (Class<?> inside : all) {
            check(Modifier.isStatic(inside.getModifiers()), "not static: " + inside);
        }
        all.add(VoiceWills.class);
        for (Class<?> each : all) {
            int fields = 0;
            for (Field field : each.getDeclaredFields()) {
                boolean isStatic = Modifier.isStatic(field.getModifiers());
                check(!isStatic || Modifier.isFinal(field.getModifiers()), "static state: " + field);
                fields += isStatic ? 0 : 1;
            }
            check(fields <= 20, "too many fields: " + each);
            for (Method method : each.getDeclaredMethods()) {
                check(method.getParameterCount() <= 7, "too many parameters: " + method);
            }
        }
    }

    private static void checkText() throws IOException {
        Path path = Path.of(System.getProperty("project.root", "."), "src/main/java/VoiceWills.java");
        String text = Files.readString(path, StandardCharsets.ISO_8859_1);
        for (int i = 0; i < text.length(); i++) {
            check(text.charAt(i) < 127, "a sign beyond 126 at " + i);
        }
        String code = text.replaceAll("(?s)/\\*.*?\\*/", "").replaceAll("//[^\n]*", "");
        Matcher matcher = Pattern.compile(BANNED).matcher(code);
        while (matcher.find()) {
            check(false, "not in the language: " + matcher.group());
        }
        checkLengths(text.split("\n"));
    }

    /** A method starts at four or eight blanks with a '{' at the line's end and ends at a like '}'. */
    private static void checkLengths(String[] lines) {
        for (String indent : new String[] {"    ", "        "}) {
            int start = -1;
            for (int i = 0; i < lines.length; i++) {
                if (lines[i].startsWith(indent) && !lines[i].startsWith(indent + " ")) {
                    if (lines[i].endsWith(") {") && !lines[i].contains(" class ")) {
                        start = i;
                    } else if (lines[i].equals(indent + "}") && start >= 0) {
                        check(i - start < 60, "a long method at line " + (start + 1));
                        start = -1;
                    }
                }
            }
        }
    }

    private static long made() {
        com.sun.management.ThreadMXBean bean = (com.sun.management.ThreadMXBean) ManagementFactory.getThreadMXBean();
        return bean.getThreadAllocatedBytes(Thread.currentThread().getId());
    }

    private static void dearCalls(VoiceWills x, String text) {
        for (int i = 0; i < text.length(); i++) {
            x.feed(text.charAt(i));
        }
        x.parish();
        for (int i = 0; i < 40; i++) {
            x.wills(1234567, 6, 0, 0);
            x.sing(5);
            x.orders(15, 23);
            x.keep(1);
            x.drift(60);
            x.undo();
            x.goBack(1);
            x.knock();
        }
    }

    /** One room holds all calls of a run: what is made is made with the object, and is little. */
    private static void checkRoom() {
        String text = "p0;p1;p2;p3;p4;p5;p6;w0 1 2;w1 2 3;w2 3 4;d1;d2;d3;c1,2,3,4,5,6;";
        dearCalls(new VoiceWills(), text);
        long start = made();
        VoiceWills x = new VoiceWills();
        long object = made() - start;
        check(object < 40000, "an object takes " + object + " bytes");
        start = made();
        dearCalls(x, text);
        check(made() - start < 4000, "calls make " + (made() - start) + " bytes");
    }

    public static void main(String[] args) throws IOException {
        checkFace();
        checkClasses();
        checkText();
        checkRoom();
        System.out.println("RulesTest: " + wrong + " wrong");
        if (wrong != 0) {
            System.exit(1);
        }
    }
}
