import java.lang.reflect.Constructor;
import java.lang.reflect.Field;
import java.lang.reflect.Method;
import java.lang.reflect.Modifier;
import java.nio.charset.StandardCharsets;
import java.nio.file.Files;
import java.nio.file.Path;
import java.util.Arrays;
import java.util.List;
import java.util.Set;
import java.util.TreeSet;
import java.util.regex.Matcher;
import java.util.regex.Pattern;

/** What of LANGUAGE.md a look at the source and at the compiled face can tell. */
public final class LanguageTest {
    private static final String FACE = "int guarantor(int)|int limit(int,int)|int pay(int,int)"
        + "|int store(int,int,int)|int order(int,int,int,int)|int stock(int,int,int)"
        + "|int allows(int,int,int)|int rate(int,int,int)|int terms(int,int)"
        + "|int load(int,int,int,int,int,int)|int withdraw(int)|int arrive(int,int,boolean,int)"
        + "|int match(int,int,int)|int split(int,int,int)|int use(int,int,int)|int shift(int,int,int)"
        + "|int extend(int,int)|int divert(int,int)|int days(int)|int undo()|int image(int)|int back(int)"
        + "|int ofGuarantor(int,int)|long total(int,int)|int ofStore(int,int)|int ofLoad(int,int)"
        + "|long sums(int,int)|int held(int,int)|int rateOn(int,int)|int allowance(int,int,int)"
        + "|int listed(int,int)|int room(int,int,int)|int cheapest(int,int,int)|int behind(int,int)"
        + "|int freed(int,int)|int lacks(int)|int best(int,int)|int explains(int,int,int,int)"
        + "|int would(int,int)|int dutyIf(int,int,int)|int dayOf(int,int)|int count(int)|int status()";
    private static final List<String> BARRED = List.of(
        "throw", "throws", "try", "catch", "finally", "synchronized", "assert", "import", "package",
        "Thread", "Random", "Exact", "->", "::", "@", "new Object", "hashCode", "toString", "var");

    private LanguageTest() {
    }

    public static void main(String[] args) throws Exception {
        String source = Files.readString(Path.of("src/main/java/BondStores.java"), StandardCharsets.US_ASCII);
        barredWords(withoutComments(source));
        publicFace();
        Set<String> names = new TreeSet<>();
        for (Method m : BondStores.class.getDeclaredMethods()) {
            if (Modifier.isPublic(m.getModifiers())) {
                names.add(m.getName());
            }
        }
        int classes = 1;
        membersOf(BondStores.class, names);
        for (Class<?> inner : BondStores.class.getDeclaredClasses()) {
            classes++;
            Check.isTrue(inner + " is static", Modifier.isStatic(inner.getModifiers()));
            membersOf(inner, names);
        }
        Check.isTrue("classes", classes <= 12);
        methodLengths(source);
        Check.end("LanguageTest");
    }

    private static String withoutComments(String source) {
        return source.replaceAll("(?s)/\\*.*?\\*/", "").replaceAll("//[^\n]*", "");
    }

    private static void barredWords(String code) {
        for (String word : BARRED) {
            boolean isName = Character.isLetter(word.charAt(0)) && !word.equals("Exact");
            Matcher found = Pattern.compile(isName ? "\\b" + word + "\\b" : Pattern.quote(word)).matcher(code);
            Check.isTrue("no " + word, !found.find());
        }
    }

    private static void publicFace() throws Exception {
        Class<?> type = BondStores.class;
        Check.isTrue("public final", Modifier.isPublic(type.getModifiers()) && Modifier.isFinal(type.getModifiers()));
        Set<String> found = new TreeSet<>();
        for (Method m : type.getDeclaredMethods()) {
            if (!Modifier.isPrivate(m.getModifiers())) {
                StringBuilder text = new StringBuilder(m.getReturnType() + " " + m.getName() + "(");
                for (Class<?> p : m.getParameterTypes()) {
                    text.append(text.charAt(text.length() - 1) == '(' ? "" : ",").append(p);
                }
                found.add(text + ")");
            }
        }
        Set<String> want = new TreeSet<>(Arrays.asList(FACE.split("\\|")));
        Check.isTrue("the face is " + found, found.equals(want));
        Constructor<?>[] made = type.getDeclaredConstructors();
        Check.isTrue("one constructor", made.length == 1 && Modifier.isPublic(made[0].getModifiers())
            && made[0].getParameterCount() == 0);
        for (Field f : type.getDeclaredFields()) {
            Check.isTrue("field " + f.getName(), f.getName().equals("NONE") == Modifier.isPublic(f.getModifiers())
                && (Modifier.isPrivate(f.getModifiers()) || f.getName().equals("NONE")));
        }
    }

    private static void membersOf(Class<?> type, Set<String> names) {
        int fields = 0;
        for (Field f : type.getDeclaredFields()) {
            if (Modifier.isStatic(f.getModifiers())) {
                Check.isTrue(f + " is final", Modifier.isFinal(f.getModifiers()));
            } else {
                fields++;
            }
        }
        Check.isTrue(type + " has " + fields + " fields", fields <= 20);
        for (Method m : type.getDeclaredMethods()) {
            Check.isTrue(m + " takes seven at most", m.getParameterCount() <= 7);
            Check.isTrue(m + " bears a name of its own",
                type == BondStores.class && Modifier.isPublic(m.getModifiers()) || !names.contains(m.getName()));
        }
    }

    /** Counts the lines from a line that opens a method to the next one that closes it. */
    private static void methodLengths(String source) {
        for (String indent : List.of("    ", "        ")) {
            Matcher m = Pattern.compile("(?s)\n" + indent + "(?!switch|if|for|while)\\w[^\n;=]*\\([^;=]*?\\{\n(.*?)\n" + indent + "\\}").matcher(source);
            while (m.find()) {
                Check.isTrue("sixty lines at most: " + m.group().substring(0, 60), m.group(1).lines().count() <= 60);
            }
        }
    }
}
