import java.io.IOException;
import java.lang.reflect.Constructor;
import java.lang.reflect.Field;
import java.lang.reflect.InvocationTargetException;
import java.lang.reflect.Method;
import java.lang.reflect.Modifier;
import java.nio.file.Files;
import java.nio.file.Path;
import java.util.Arrays;
import java.util.List;
import java.util.TreeSet;
import java.util.stream.Collectors;

/** The public face as the document writes it, the rules of LANGUAGE.md that a look can tell, and wild arguments. */
public final class FaceTest {
    private static final String N = " NoSuchElementException";
    private static final String I = " IllegalArgumentException";
    private static final String[] FACE = {
        "int feed 5", "int house 1" + I, "int rules 1" + I, "int fault 0", "int told 1" + I,
        "int person 2" + N + I, "int income 2" + N + I, "int good 2" + N + I, "int part 2" + N, "int debt 2" + N + I,
        "int bars 4" + N + I, "int late 4" + N + I, "boolean isSo 5" + N + I,
        "int take 4" + N + I + " IllegalStateException", "int act 2" + I, "int wrong 0", "int stage 2" + N + I,
        "int sell 3" + N + I, "int aside 1" + N, "int promise 3" + N + I, "int kept 2" + N + I, "int spare 2" + N + I,
        "int best 3" + N + I, "int forget 0", "int cover 4" + N + I, "int when 4" + N + I, "int drawn 3" + N + I,
        "int image 0", "int restore 0", "int status 1", "int count 1"};

    public static void main(String[] args) throws Exception {
        members();
        nested();
        source(args.length > 0 ? args[0] : "src/main/java/ListedGoods.java");
        room(args.length > 0 ? args[0] : "src/main/java/ListedGoods.java");
        wildArguments();
        Check.end("FaceTest");
    }

    private static String signature(Method m) {
        String thrown = Arrays.stream(m.getExceptionTypes()).map(c -> " " + c.getSimpleName()).collect(Collectors.joining());
        return m.getReturnType() + " " + m.getName() + " " + m.getParameterCount() + thrown;
    }

    private static List<Method> face() {
        return Arrays.stream(ListedGoods.class.getDeclaredMethods())
                .filter(m -> Modifier.isPublic(m.getModifiers())).sorted((a, b) -> a.getName().compareTo(b.getName())).toList();
    }

    private static void members() throws Exception {
        Class<ListedGoods> c = ListedGoods.class;
        Check.same("public final", "public final", Modifier.toString(c.getModifiers()));
        Check.same("no package", "", c.getPackageName());
        Check.same("methods", new TreeSet<>(Arrays.asList(FACE)).toString(),
                face().stream().map(FaceTest::signature).collect(Collectors.toCollection(TreeSet::new)).toString());
        Constructor<?>[] made = c.getDeclaredConstructors();
        Check.same("one constructor", "public ListedGoods()", made.length == 1 ? made[0].toString() : "others");
        Check.same("NONE", "-1", Integer.toString(ListedGoods.NONE));
        TreeSet<String> names = face().stream().map(Method::getName).collect(Collectors.toCollection(TreeSet::new));
        for (Method m : c.getDeclaredMethods()) {
            boolean open = Modifier.isPublic(m.getModifiers());
            Check.same("private, of another name: " + m.getName(), "true",
                    "" + (open || Modifier.isPrivate(m.getModifiers()) && !names.contains(m.getName())));
        }
        for (Field f : c.getDeclaredFields()) {
            boolean none = f.getName().equals("NONE");
            Check.same("private: " + f.getName(), "true", "" + (none || Modifier.isPrivate(f.getModifiers())));
            boolean isStatic = Modifier.isStatic(f.getModifiers());
            Check.same("final: " + f.getName(), "true", "" + (!isStatic || Modifier.isFinal(f.getModifiers())));
        }
    }

    private static void nested() {
        List<String> names = face().stream().map(Method::getName).toList();
        Class<?>[] inside = ListedGoods.class.getDeclaredClasses();
        Check.same("at most twelve classes", "true", "" + (inside.length + 1 <= 12));
        for (Class<?> c : inside) {
            Check.same("static: " + c.getName(), "true", "" + Modifier.isStatic(c.getModifiers()));
            Check.same("private: " + c.getName(), "true", "" + Modifier.isPrivate(c.getModifiers()));
            long fields = Arrays.stream(c.getDeclaredFields()).filter(f -> !Modifier.isStatic(f.getModifiers())).count();
            Check.same("at most twenty fields: " + c.getName(), "true", "" + (fields <= 20));
            for (Method m : c.getDeclaredMethods()) {
                Check.same("at most seven parameters: " + m.getName(), "true", "" + (m.getParameterCount() <= 7));
                Check.same("of another name: " + m.getName(), "false", "" + names.contains(m.getName()));
            }
        }
    }

    private static void source(String path) throws IOException {
        String text = Files.readString(Path.of(path));
        for (String word : new String[] {"catch", "try {", "finally", "->", "::", "synchronized", "assert ", "Exact(",
            "String.format", "Object", "HashMap", "instanceof", "package "}) {
            Check.same("not in the program: " + word, "false", "" + text.contains(word));
        }
        List<String> imports = text.lines().filter(s -> s.startsWith("import ")).toList();
        Check.same("imports", "[import java.util.Arrays;, import java.util.NoSuchElementException;]", imports.toString());
    }

    /* All calls of a run live in one room: rows are made with the object, a call makes nothing but what it throws. */
    private static void room(String path) throws IOException {
        for (String line : Files.readAllLines(Path.of(path))) {
            if (line.contains("new ") && !line.matches(" *(/\\*|//).*")) {
                boolean isFine = line.contains("throw new ") || line.contains("images[i] = new Course()")
                        || line.matches(" +(private |final |private final )[a-zA-Z\\[\\]]+ [a-zA-Z]+ = new .*;");
                Check.same("made with the object, or thrown: " + line.strip(), "true", "" + isFine);
            }
        }
    }

    /* Every call with numbers from all ends: it answers, or throws what it declares, once counted. */
    private static void wildArguments() throws IllegalAccessException {
        int[] wild = {Integer.MIN_VALUE, -1, 0, 1, 3, 35, 36, 9999, 10000, Integer.MAX_VALUE};
        String house = "person 500 300;person 9 9;good 0 100 0;good 1 50 2;part 0 1 3;claim 1 5 6;debt 0 120 100;debt 1 7 7;ill 1 3;";
        for (Method m : face()) {
            ListedGoods x = Check.with(house, "bar kind 4;bar other and hour >20;");
            x.take(0, 0, 100, 0);
            x.promise(0, 5, 5);
            int n = m.getParameterCount();
            int all = (int) Math.pow(wild.length, Math.min(4, n));
            for (int i = 0; i < all; i++) {
                Object[] args = new Object[n];
                int rest = i;
                for (int j = 0; j < n; j++) {
                    args[n - 1 - j] = wild[rest % wild.length];
                    rest = j < 3 ? rest / wild.length : rest;
                }
                wildCall(x, m, args);
            }
        }
    }

    private static void wildCall(ListedGoods x, Method m, Object[] args) throws IllegalAccessException {
        int[] before = {x.status(0), x.status(1), x.status(2)};
        try {
            m.invoke(x, args);
        } catch (InvocationTargetException e) {
            Class<?> thrown = e.getCause().getClass();
            Check.same(m.getName() + " throws " + thrown, "true", "" + List.of(m.getExceptionTypes()).contains(thrown));
            String name = thrown.getSimpleName();
            before[name.equals(Check.ABSENT) ? 0 : name.equals(Check.UNFIT) ? 1 : 2]++;
        }
        Check.same("counted: " + m.getName() + Arrays.toString(args), Arrays.toString(before),
                Arrays.toString(new int[] {x.status(0), x.status(1), x.status(2)}));
    }
}
