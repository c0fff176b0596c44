import java.io.IOException;
import java.lang.reflect.Constructor;
import java.lang.reflect.Field;
import java.lang.reflect.Member;
import java.lang.reflect.Method;
import java.lang.reflect.Modifier;
import java.nio.file.Files;
import java.nio.file.Path;
import java.util.Arrays;
import java.util.Random;
import java.util.TreeSet;
import java.util.regex.Matcher;
import java.util.regex.Pattern;

/** The public face, and the rules of LANGUAGE.md that can be seen in the class or its text. */
public final class LanguageTest {
    private static final String SOURCE = "src/main/java/SessionTables.java";
    private static final String[] FACE = {
        "BAD=-1", "TAKEN=-2", "MANY=-3", "FULL=-4", "TORN=-5", "BUSY=-6", "LOOP=-7", "SPOILED=-8", "new(int)",
        "make(int,int,boolean):int", "write(int,int,int):int", "remove(int,int):int",
        "move(int,int,int,int):int", "close():int", "arm(int):boolean", "crash():int",
        "spoil(int):boolean", "left():int", "changed():int", "tables():int", "kind(int,int):int",
        "items(int,int):int", "find(int,int,int):int", "item(int,int,int):int",
        "block(int,int,int):int", "word(int,int):int"};
    private static final String[] BANNED = {
        "\\bthrow\\b", "\\btry\\b", "\\bcatch\\b", "\\bsynchronized\\b", "\\bassert\\b", "->", "::",
        "\\bimport\\b", "\\bpackage\\b", "\\bprotected\\b", "\\bSystem\\.(?!arraycopy)", "\\bObject\\b",
        "\\bhashCode\\b", "\\btoString\\b", "Exact\\b", "static\\s*\\{"};

    private static int wrong = 0;

    public static void main(String[] args) throws IOException {
        face();
        ownMethods();
        staticFields();
        sizes();
        text();
        noCallThrows();
        System.out.println(wrong == 0 ? "the class keeps to the rules" : wrong + " rules are broken");
        if (wrong != 0) {
            System.exit(1);
        }
    }

    private static void say(String what) {
        wrong++;
        System.out.println(what);
    }

    /** What is seen has to be public, and is told apart here if it is not. */
    private static String open(Member member) {
        return Modifier.isPublic(member.getModifiers()) ? "" : "not public: ";
    }

    private static boolean isSeen(Member member) {
        return !Modifier.isPrivate(member.getModifiers()) && !member.isSynthetic();
    }

    private static String constant(Field field) {
        boolean isConstant = Modifier.isStatic(field.getModifiers()) && Modifier.isFinal(field.getModifiers());
        try {
            return field.getName() + (isConstant ? "=" + field.getInt(null) : " is no constant");
        } catch (ReflectiveOperationException | IllegalArgumentException e) {
            return field.getName() + " is no int";
        }
    }

    private static String types(Class<?>[] parameters) {
        StringBuilder s = new StringBuilder("(");
        for (Class<?> type : parameters) {
            s.append(s.length() > 1 ? "," : "").append(type.getSimpleName());
        }
        return s.append(")").toString();
    }

    private static void face() {
        Class<?> c = SessionTables.class;
        int modifiers = c.getModifiers();
        if (!Modifier.isPublic(modifiers) || !Modifier.isFinal(modifiers)) {
            say("the class is not public and final");
        }
        TreeSet<String> seen = new TreeSet<>();
        for (Field field : c.getDeclaredFields()) {
            if (isSeen(field)) {
                seen.add(open(field) + constant(field));
            }
        }
        for (Constructor<?> made : c.getDeclaredConstructors()) {
            if (isSeen(made)) {
                seen.add(open(made) + "new" + types(made.getParameterTypes()));
            }
        }
        for (Method method : c.getDeclaredMethods()) {
            if (isSeen(method)) {
                seen.add(open(method) + method.getName() + types(method.getParameterTypes()) + ":"
                    + method.getReturnType().getSimpleName());
            }
        }
        TreeSet<String> due = new TreeSet<>(Arrays.asList(FACE));
        if (!seen.equals(due)) {
            say("the face is " + seen + ", due is " + due);
        }
    }

    private static void ownMethods() {
        TreeSet<String> open = new TreeSet<>();
        for (Method method : SessionTables.class.getMethods()) {
            open.add(method.getName());
        }
        for (Method method : SessionTables.class.getDeclaredMethods()) {
            own(method, Modifier.isPrivate(method.getModifiers()) && open.contains(method.getName()));
        }
        for (Class<?> inside : SessionTables.class.getDeclaredClasses()) {
            if (!Modifier.isStatic(inside.getModifiers())) {
                say(inside.getName() + " is not static");
            }
            for (Method method : inside.getDeclaredMethods()) {
                own(method, open.contains(method.getName()));
            }
        }
    }

    private static void own(Method method, boolean clash) {
        if (clash) {
            say(method.getName() + " bears the name of a public method");
        }
        if (method.getParameterCount() > 7) {
            say(method.getName() + " has more than seven parameters");
        }
    }

    private static void staticFields() {
        for (Class<?> inside : SessionTables.class.getDeclaredClasses()) {
            staticFieldsOf(inside);
        }
        staticFieldsOf(SessionTables.class);
    }

    private static void staticFieldsOf(Class<?> c) {
        for (Field field : c.getDeclaredFields()) {
            int modifiers = field.getModifiers();
            if (Modifier.isStatic(modifiers) && !(Modifier.isFinal(modifiers) && field.getType() == int.class)) {
                say(field.getName() + " is static and no constant");
            }
        }
    }

    private static void sizes() {
        Class<?>[] inside = SessionTables.class.getDeclaredClasses();
        if (inside.length > 11) {
            say("the file has more than twelve classes");
        }
        for (Class<?> c : inside) {
            ownFields(c);
        }
        ownFields(SessionTables.class);
    }

    private static void ownFields(Class<?> c) {
        int count = 0;
        for (Field field : c.getDeclaredFields()) {
            count += Modifier.isStatic(field.getModifiers()) ? 0 : 1;
        }
        if (count > 20) {
            say(c.getName() + " has more than twenty fields");
        }
    }

    /** Far beyond the 512 calls, where the answers are free, no call may throw either. */
    private static void noCallThrows() {
        int[] edges = {Integer.MIN_VALUE, -1, 0, 1, 2, 3, 7, 8, 9, 10, 16, 99, 100, 128, 1 << 28, Integer.MAX_VALUE};
        for (int seed = 0; seed < 40; seed++) {
            Random random = new Random(seed);
            SessionTables x = new SessionTables(edges[random.nextInt(edges.length)]);
            for (int call = 0; call < 3000; call++) {
                int[] a = new int[4];
                for (int i = 0; i < 4; i++) {
                    a[i] = random.nextInt(4) == 0 ? edges[random.nextInt(edges.length)] : random.nextInt(6);
                }
                anyCall(x, random.nextInt(17), a);
            }
        }
    }

    private static void anyCall(SessionTables x, int which, int[] a) {
        switch (which) {
            case 0 -> x.make(a[0], a[1], a[2] > 1);
            case 1 -> x.write(a[0], a[1], a[2]);
            case 2 -> x.remove(a[0], a[1]);
            case 3 -> x.move(a[0], a[1], a[2], a[3]);
            case 4 -> x.close();
            case 5 -> x.arm(a[0]);
            case 6 -> x.crash();
            case 7 -> x.spoil(a[0]);
            case 8 -> x.left();
            case 9 -> x.changed();
            case 10 -> x.tables();
            case 11 -> x.kind(a[0], a[1]);
            case 12 -> x.items(a[0], a[1]);
            case 13 -> x.find(a[0], a[1], a[2]);
            case 14 -> x.item(a[0], a[1], a[2]);
            case 15 -> x.block(a[0], a[1], a[2]);
            default -> x.word(a[0], a[1]);
        }
    }

    private static void text() throws IOException {
        String code = Files.readString(Path.of(SOURCE)).replaceAll("(?s)/\\*.*?\\*/", " ").replaceAll("//[^\n]*", " ");
        for (String banned : BANNED) {
            Matcher matcher = Pattern.compile(banned).matcher(code);
            if (matcher.find()) {
                say("the text has " + matcher.group());
            }
        }
    }
}
