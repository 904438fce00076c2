import com.sun.management.ThreadMXBean;
import java.io.DataInputStream;
import java.io.IOException;
import java.lang.management.ManagementFactory;
import java.lang.reflect.Constructor;
import java.lang.reflect.Field;
import java.lang.reflect.Method;
import java.lang.reflect.Modifier;
import java.nio.file.Files;
import java.nio.file.Path;
import java.util.Set;
import java.util.TreeSet;

/** The form of the class: its face, the words that it does without, the room that it takes. */
public final class FormTest {
    private static final Set<String> FACE = Set.of("write 1", "wipe 0", "fault 0", "lay 0", "stile 2", "walker 2",
        "account 2", "tread 2", "replace 1", "sand 1", "undo 0", "way 3", "even 1", "measure 1", "fresh 1", "lasts 2",
        "richest 0", "see 2", "forget 0", "whose 1", "often 3", "drunk 5", "year 3", "keep 0", "back 0", "count 1");
    private static final Set<String> CONSTANTS = Set.of("BAD", "NO", "FULL", "NONE");
    private static final String[] UNWANTED = {"->", "::", "import ", "throw", "catch", "finally", "instanceof",
        "synchronized", "assert", "static {", "Exact(", "String.format", "System.out", "Random", "currentTime", "Exception"};
    // what the class needs of the library; LANGUAGE.md, rule 4, leaves some more
    private static final Set<String> LIBRARY = Set.of("java/lang/Object.<init>()V", "java/lang/String.length()I",
        "java/lang/String.charAt(I)C", "java/lang/Math.min(II)I", "java/lang/Math.max(II)I", "java/lang/Math.abs(I)I",
        "java/lang/Integer.bitCount(I)I", "java/lang/System.arraycopy(Ljava/lang/Object;ILjava/lang/Object;II)V");
    private static final int ALL_CALLS = 512;

    public static void main(String[] args) throws IOException {
        faceIsTheDocuments();
        sourceKeepsToTheLanguage();
        classesKeepToTheBounds();
        methodsAreShort();
        onlyTheLibraryIsUsed();
        readmeTellsAll();
        callsMakeNothing();
        Due.end();
    }

    private static void faceIsTheDocuments() {
        Class<?> c = StileAccounts.class;
        Due.holds("public and final", Modifier.isPublic(c.getModifiers()) && Modifier.isFinal(c.getModifiers()));
        Set<String> seen = new TreeSet<>();
        Set<String> names = new TreeSet<>();
        for (String one : FACE) {
            names.add(one.split(" ")[0]);
        }
        for (Method m : c.getDeclaredMethods()) {
            if (Modifier.isPrivate(m.getModifiers())) {
                Due.holds("private " + m.getName() + " bears a public name", !names.contains(m.getName()));
            } else {
                Due.holds(m + " is public, of int", Modifier.isPublic(m.getModifiers()) && m.getReturnType() == int.class);
                seen.add(m.getName() + " " + m.getParameterCount());
            }
        }
        Due.holds("the methods are the document's: " + seen, seen.equals(FACE));
        Set<String> constants = new TreeSet<>();
        for (Field f : c.getDeclaredFields()) {
            if (!Modifier.isPrivate(f.getModifiers())) {
                constants.add(f.getName());
            }
            Due.holds(f + " is final if static", !Modifier.isStatic(f.getModifiers()) || Modifier.isFinal(f.getModifiers()));
        }
        Due.holds("the constants are the document's", constants.equals(CONSTANTS));
        for (Constructor<?> one : c.getDeclaredConstructors()) {
            Due.holds("one public constructor", Modifier.isPublic(one.getModifiers()) && one.getParameterCount() == 0);
        }
    }

    private static void sourceKeepsToTheLanguage() throws IOException {
        String source = Files.readString(Path.of("src/main/java/StileAccounts.java"));
        for (String word : UNWANTED) {
            Due.holds("the source does without " + word, !source.contains(word));
        }
        for (char letter : source.toCharArray()) {
            if (letter > 126) {
                Due.holds("only plain letters, not " + letter, false);
            }
        }
    }

    private static void readmeTellsAll() throws IOException {
        String readme = Files.readString(Path.of("README.md"));
        for (String one : FACE) {
            Due.holds("README.md tells of " + one, readme.contains("| `" + one.split(" ")[0] + "("));
        }
        for (String one : CONSTANTS) {
            Due.holds("README.md tells what " + one + " means", readme.contains("| `" + one + "` | -"));
        }
        Due.holds("README.md tells how the tests are run", readme.contains(".ci/run"));
    }

    // LANGUAGE.md, rules 1, 2, 5 and 11: twelve classes, twenty fields beside constants, seven parameters
    private static void classesKeepToTheBounds() {
        Class<?>[] inside = StileAccounts.class.getDeclaredClasses();
        Due.holds(inside.length + " classes inside", inside.length + 1 <= 12);
        keepsToTheBounds(StileAccounts.class);
        for (Class<?> c : inside) {
            Due.holds(c + " is static, not public", Modifier.isStatic(c.getModifiers()) && !Modifier.isPublic(c.getModifiers()));
            keepsToTheBounds(c);
        }
    }

    private static void keepsToTheBounds(Class<?> c) {
        int fields = 0;
        for (Field f : c.getDeclaredFields()) {
            boolean still = Modifier.isStatic(f.getModifiers());
            Due.holds(f + " is final if static", !still || Modifier.isFinal(f.getModifiers()));
            fields += still ? 0 : 1;
        }
        Due.holds(fields + " fields in " + c, fields <= 20);
        for (Method m : c.getDeclaredMethods()) {
            Due.holds(m + " has seven parameters at most", m.getParameterCount() <= 7);
        }
    }

    // LANGUAGE.md, rule 11: some sixty lines
    private static void methodsAreShort() throws IOException {
        int start = -1;
        String end = "";
        int lines = 0;
        for (String line : Files.readAllLines(Path.of("src/main/java/StileAccounts.java"))) {
            lines++;
            String indent = line.substring(0, line.length() - line.stripLeading().length());
            boolean head = line.endsWith(") {") && (indent.length() == 4 || indent.length() == 8 && !line.matches(" *(if|for|while|switch) .*"));
            if (start < 0 && head) {
                start = lines;
                end = indent + "}";
            } else if (start >= 0 && line.equals(end)) {
                Due.holds("the method from line " + start + " to " + lines + " is short", lines - start < 60);
                start = -1;
            }
        }
        Due.holds("every method has an end", start < 0);
    }

    // LANGUAGE.md, rules 2, 4, 10 and 13: what the class files name beside the classes of the file itself
    private static void onlyTheLibraryIsUsed() throws IOException {
        usesOnlyTheLibrary(StileAccounts.class);
        for (Class<?> c : StileAccounts.class.getDeclaredClasses()) {
            usesOnlyTheLibrary(c);
        }
    }

    private static void usesOnlyTheLibrary(Class<?> c) throws IOException {
        try (DataInputStream in = new DataInputStream(c.getResourceAsStream(c.getName() + ".class"))) {
            in.skipBytes(8);
            int size = in.readUnsignedShort();
            String[] texts = new String[size];
            int[][] pairs = new int[size][];
            boolean[] members = new boolean[size];
            for (int i = 1; i < size; i++) {
                int tag = in.readUnsignedByte();
                members[i] = tag >= 9 && tag <= 11;
                Due.holds(c + " calls nothing that the machine makes as it runs", tag < 15);
                switch (tag) {
                    case 1 -> texts[i] = in.readUTF();
                    case 7, 8, 16, 19, 20 -> pairs[i] = new int[] {in.readUnsignedShort()};
                    case 15 -> in.skipBytes(3);
                    case 5, 6 -> {
                        in.readLong();
                        i++;
                    }
                    default -> pairs[i] = new int[] {in.readUnsignedShort(), in.readUnsignedShort()};
                }
            }
            for (int i = 1; i < size; i++) {
                if (members[i]) {
                    int[] named = pairs[pairs[i][1]];
                    isOfTheLibrary(texts[pairs[pairs[i][0]][0]], texts[named[0]] + texts[named[1]]);
                }
            }
        }
    }

    private static void isOfTheLibrary(String owner, String member) {
        boolean own = owner.equals("StileAccounts") || owner.startsWith("StileAccounts$");
        Due.holds(owner + "." + member + " may be used", own || LIBRARY.contains(owner + "." + member));
    }

    private static void callsMakeNothing() {
        // the first object warms up what the machine itself makes by first calls
        callAll(new StileAccounts());
        StileAccounts x = new StileAccounts();
        long before = allocated();
        callAll(x);
        long made = allocated() - before;
        Due.holds(ALL_CALLS + " calls make " + made + " bytes", made < 4096);
        before = allocated();
        x = new StileAccounts();
        made = allocated() - before;
        // 512 new objects would have room in 7.3 million fields and elements
        Due.holds("a new object takes " + made + " bytes", made < 40000 && x.count(9) == 0);
    }

    private static long allocated() {
        return ((ThreadMXBean) ManagementFactory.getThreadMXBean()).getCurrentThreadAllocatedBytes();
    }

    private static void callAll(StileAccounts x) {
        for (int i = 0; i < Fields.FIRST.length(); i++) {
            x.write(Fields.FIRST.charAt(i));
        }
        for (int i = 0; i < 16; i++) {
            int w = i % 4;
            int s = i % 7;
            x.lay();
            x.keep();
            x.tread(w, s);
            x.tread(0, 0);
            x.sand(s);
            x.replace(6 - s);
            x.undo();
            x.way(w, i % 6, i % 2);
            x.even(0);
            x.measure(0);
            x.fresh(1);
            x.lasts(s, w);
            x.richest();
            x.see(s, i);
            x.whose(s);
            x.often(w, s, 12);
            x.drunk(w, 1, 8, 3, 0);
            x.year(i, 60, 0);
            x.back();
            x.stile(s, 4);
            x.walker(w, 4);
            x.account(w, s);
            x.count(5);
            x.fault();
            x.forget();
        }
        x.wipe();
    }
}
