import java.lang.reflect.Constructor;
import java.lang.reflect.Field;
import java.lang.reflect.Method;
import java.lang.reflect.Modifier;
import java.nio.file.Files;
import java.nio.file.Path;
import java.util.ArrayList;
import java.util.List;
import java.util.TreeSet;
import java.util.regex.Matcher;
import java.util.regex.Pattern;

/** What LANGUAGE.md rules out and a look at the file or at the face can find. */
public final class LanguageTest {
    private static final String FACE = "best(int) bill() box(int,int) carrier(int) cheap(int) count(int) "
        + "counter(int,int,int) fate(int) fault() feed(int,int,int,int,int) fits(int) forget() hall(int) image() lawful() "
        + "look(int,int) lost(int) may(int,int) opened() person(int,int) restore() safe() see(int,int) share() shift(int,int) "
        + "sure(int,int) thing(int,int) two(int,int) undo() wear(int,int,boolean) weigh(int,int)";

    public static void main(String[] args) throws Exception {
        face();
        source();
        room();
        Check.end();
    }

    private static void face() {
        TreeSet<String> found = new TreeSet<>();
        TreeSet<String> names = new TreeSet<>();
        for (Method m : PoundsOver.class.getDeclaredMethods()) {
            if (Modifier.isPublic(m.getModifiers())) {
                String all = m.toString().replaceAll(" throws .*", "");
                found.add(all.substring(all.indexOf("PoundsOver.") + 11));
                names.add(m.getName());
            }
        }
        Check.due("the face is " + found, String.join(" ", found).equals(FACE), true);
        for (Method m : PoundsOver.class.getDeclaredMethods()) {
            boolean open = Modifier.isPublic(m.getModifiers());
            Check.due(m + " is public or private", open || Modifier.isPrivate(m.getModifiers()), true);
            Check.due(m + " has its own name", open || !names.contains(m.getName()), true);
        }
        for (Field f : PoundsOver.class.getDeclaredFields()) {
            boolean none = f.getName().equals("NONE");
            Check.due(f + " is private", Modifier.isPrivate(f.getModifiers()), !none);
        }
        for (Constructor<?> c : PoundsOver.class.getDeclaredConstructors()) {
            Check.due(c + " is public", Modifier.isPublic(c.getModifiers()) && c.getParameterCount() == 0, true);
        }
        for (Class<?> inside : PoundsOver.class.getDeclaredClasses()) {
            Check.due(inside + " is static", Modifier.isStatic(inside.getModifiers()), true);
            for (Method m : inside.getDeclaredMethods()) {
                Check.due(m + " has a name that is not of the face", names.contains(m.getName()), false);
                Check.due(m + " has few parameters", m.getParameterCount() <= 7, true);
            }
        }
    }

    private static void source() throws Exception {
        String file = Files.readString(Path.of("src/main/java/PoundsOver.java"));
        String code = file.replaceAll("(?s)/\\*.*?\\*/", "").replaceAll("//[^\n]*", "");
        String[] out = {"\\btry\\b", "\\bcatch\\b", "\\bfinally\\b", "\\bsynchronized\\b", "\\bassert\\b", "\\bpackage\\b", "->",
            "::", "\\bvar\\b", "\\binstanceof\\b", "\\bhashCode\\b", "\\btoString\\b", "\\bordinal\\b", "Exact\\b", "\\bdouble\\b",
            "\\bfloat\\b", "\\bSystem\\b", "\\bThread\\b", "\\bstatic\\s*\\{", "\\[\\]\\[\\]", "\\bprotected\\b"};
        for (String o : out) {
            Check.due("uses of " + o, count(code, o), 0);
        }
        Check.due("imports", count(code, "\\bimport\\b"), 1);
        Check.due("import of NoSuchElementException", count(code, "import java\\.util\\.NoSuchElementException;"), 1);
        Check.due("classes inside", count(code, "\\b(class|enum|interface|record) [A-Z]") <= 13, true);
        for (int length : methodLengths(file)) {
            Check.due("a method of " + length + " lines", length <= 60, true);
        }
    }

    private static int count(String code, String pattern) {
        Matcher m = Pattern.compile(pattern).matcher(code);
        int n = 0;
        while (m.find()) {
            n++;
        }
        return n;
    }

    private static List<Integer> methodLengths(String file) {
        List<Integer> lengths = new ArrayList<>();
        String[] lines = file.split("\n");
        for (int i = 0; i < lines.length; i++) {
            Matcher m = Pattern.compile("^( {4}| {8})(?!if|for|while|switch)[a-zA-Z].*\\).*\\{$").matcher(lines[i]);
            if (m.find()) {
                int end = i;
                while (!lines[end].equals(m.group(1) + "}")) {
                    end++;
                }
                lengths.add(end - i + 1);
            }
        }
        Check.due("methods were found", lengths.size() > 100, true);
        return lengths;
    }

    /** Calls make nothing that stays or goes, so that a run's room is what its objects take at first. */
    private static void room() {
        com.sun.management.ThreadMXBean threads =
            (com.sun.management.ThreadMXBean) java.lang.management.ManagementFactory.getThreadMXBean();
        long id = Thread.currentThread().getId();
        int[] text = text("person 60 3 9;person 40 0 9;case 0 9 30 7;case 1 15 30 3;" + "coat 3 1 1 50 0 5;".repeat(9) + "fee over*2;");
        everyCall(new PoundsOver(), text);
        long before = threads.getThreadAllocatedBytes(id);
        PoundsOver x = new PoundsOver();
        long made = threads.getThreadAllocatedBytes(id) - before;
        Check.due("an object takes " + made + " bytes", made < 40_000, true);
        before = threads.getThreadAllocatedBytes(id);
        for (int i = 0; i < 15; i++) {
            everyCall(x, text);
        }
        made = threads.getThreadAllocatedBytes(id) - before;
        Check.due("15 times every call took " + made + " bytes", made < 2_000, true);
    }

    private static int[] text(String s) {
        byte[] bytes = new byte[(s.length() + 19) / 20 * 20];
        java.util.Arrays.fill(bytes, (byte) ' ');
        for (int i = 0; i < s.length(); i++) {
            bytes[i] = (byte) s.charAt(i);
        }
        int[] fours = new int[bytes.length / 4];
        for (int i = 0; i < fours.length; i++) {
            fours[i] = Check.four(bytes, 4 * i);
        }
        return fours;
    }

    private static void everyCall(PoundsOver x, int[] text) {
        for (int i = 0; i < text.length; i += 5) {
            x.feed(text[i], text[i + 1], text[i + 2], text[i + 3], text[i + 4]);
        }
        int sum = x.hall(4 * text.length) + x.fault() + x.count(2) + x.person(0, 3) + x.box(0, 8) + x.thing(0, 7);
        sum += x.shift(0, 10) + x.bill() + x.lawful() + x.two(0, 1) + x.opened() + x.cheap(0) + x.fate(1);
        sum += (int) x.sure(0, 3) + x.weigh(0, 0) + x.lost(0) + x.safe() + x.wear(0, 3, true) + x.share() + x.carrier(0);
        sum += x.look(0, 0) + x.see(0, 9) + x.fits(0) + x.best(0) + x.counter(sum, 200, 0) + x.forget();
        x.image();
        x.restore();
        if (x.may(0, 0)) {
            sum += x.undo();
        }
        Check.due("what all of them give isn't 0", sum != 0, true);
    }
}
