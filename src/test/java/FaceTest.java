import java.io.IOException;
import java.lang.reflect.Constructor;
import java.lang.reflect.Field;
import java.lang.reflect.Method;
import java.lang.reflect.Modifier;
import java.nio.file.Files;
import java.nio.file.Path;
import java.util.ArrayList;
import java.util.List;
import java.util.Set;
import java.util.TreeSet;
import java.util.regex.Matcher;
import java.util.regex.Pattern;

/** The class has the public face of the document and nothing more; each class inside is private and static. */
public final class FaceTest {
    private static final Path DOCUMENT = Path.of("../shared/DOC.md");
    private static final Pattern TOLD = Pattern.compile(" +public (int|boolean) (\\w+)\\((.*)\\);");
    private static final String[] FACE = {
        "boolean again()", "boolean back()", "boolean board(int,int)", "boolean law(int,int,boolean,int,int)",
        "boolean line(int,int,int)", "boolean needed(int)", "boolean ring()", "boolean stop()",
        "int about(int)", "int begin(int)", "int best()", "int count(int,int)", "int deep()", "int field(int)",
        "int go(int,int,int)", "int most(int)", "int on(int)", "int piece(int,int)", "int solve()",
        "int stand(int,int)", "int took(int)", "int why(int,int,int)", "int worth()"
    };
    private static final Check CHECK = new Check();

    public static void main(String[] args) throws IOException {
        methods();
        faceOfTheDocument();
        privateMethods();
        constants();
        constructor();
        classItself();
        nothingOfObject();
        classesInside();
        CHECK.end();
    }

    private static Set<String> face() {
        return new TreeSet<>(Set.of(FACE));
    }

    private static void methods() {
        Set<String> found = new TreeSet<>();
        for (Method m : KingTable.class.getDeclaredMethods()) {
            if (Modifier.isPublic(m.getModifiers())) {
                found.add(told(m));
                CHECK.due(m.getName() + " is no static method", false, Modifier.isStatic(m.getModifiers()));
                CHECK.due(m.getName() + " tells of exceptions", 0, m.getExceptionTypes().length);
            }
        }
        CHECK.same("the public methods", List.copyOf(face()), List.copyOf(found));
    }

    private static String told(Method m) {
        StringBuilder text = new StringBuilder(m.getReturnType().getName()).append(' ').append(m.getName()).append('(');
        for (int i = 0; i < m.getParameterCount(); i++) {
            text.append(i > 0 ? "," : "").append(m.getParameterTypes()[i].getName());
        }
        return text.append(')').toString();
    }

    private static void faceOfTheDocument() throws IOException {
        if (!Files.isReadable(DOCUMENT)) {
            System.out.println("the document isn't beside the checkout, so the face is not set against it");
            return;
        }
        Set<String> found = new TreeSet<>();
        for (String line : Files.readAllLines(DOCUMENT)) {
            Matcher method = TOLD.matcher(line);
            if (method.matches()) {
                String types = method.group(3).replaceAll("(int|boolean) \\w+", "$1").replace(" ", "");
                found.add(method.group(1) + " " + method.group(2) + "(" + types + ")");
            }
        }
        CHECK.same("the document's methods", List.copyOf(found), List.copyOf(face()));
    }

    private static void privateMethods() {
        Set<String> publicNames = new TreeSet<>();
        for (String method : FACE) {
            publicNames.add(method.substring(method.indexOf(' ') + 1, method.indexOf('(')));
        }
        List<Class<?>> all = new ArrayList<>(List.of(KingTable.class.getDeclaredClasses()));
        all.add(KingTable.class);
        for (Class<?> c : all) {
            for (Method m : c.getDeclaredMethods()) {
                boolean ofTheFace = c == KingTable.class && Modifier.isPublic(m.getModifiers());
                CHECK.due(m + " has a name of its own", !ofTheFace, !publicNames.contains(m.getName()));
                boolean isPrivate = Modifier.isPrivate(m.getModifiers());
                CHECK.due(m + " is private", true, c != KingTable.class || ofTheFace || isPrivate);
            }
        }
    }

    private static void constants() {
        CHECK.due("NONE", -1, KingTable.NONE);
        for (Field f : KingTable.class.getDeclaredFields()) {
            boolean none = f.getName().equals("NONE");
            CHECK.due(f + " is public", none, Modifier.isPublic(f.getModifiers()));
            CHECK.due(f + " is private", !none, Modifier.isPrivate(f.getModifiers()));
            CHECK.due(f + " is final", true, Modifier.isFinal(f.getModifiers()));
            if (none) {
                CHECK.due("NONE is static", true, Modifier.isStatic(f.getModifiers()));
                CHECK.due("NONE is an int", true, f.getType() == int.class);
            }
        }
    }

    private static void constructor() {
        Constructor<?>[] makers = KingTable.class.getDeclaredConstructors();
        CHECK.due("constructors", 1, makers.length);
        CHECK.due("its parameters", 0, makers[0].getParameterCount());
        CHECK.due("it is public", true, Modifier.isPublic(makers[0].getModifiers()));
        CHECK.due("it tells of exceptions", 0, makers[0].getExceptionTypes().length);
    }

    private static void classItself() {
        CHECK.due("the class is public", true, Modifier.isPublic(KingTable.class.getModifiers()));
        CHECK.due("the class is final", true, Modifier.isFinal(KingTable.class.getModifiers()));
        CHECK.due("it has no package", true, KingTable.class.getPackageName().isEmpty());
        CHECK.due("it's below Object alone", true, KingTable.class.getSuperclass() == Object.class);
        CHECK.due("its interfaces", 0, KingTable.class.getInterfaces().length);
    }

    private static void nothingOfObject() {
        for (Method m : KingTable.class.getDeclaredMethods()) {
            for (Method ofObject : Object.class.getDeclaredMethods()) {
                CHECK.due(m + " is not one of Object", false, m.getName().equals(ofObject.getName()));
            }
        }
    }

    private static void classesInside() {
        for (Class<?> c : KingTable.class.getDeclaredClasses()) {
            CHECK.due(c + " is static", true, Modifier.isStatic(c.getModifiers()));
            CHECK.due(c + " is private", true, Modifier.isPrivate(c.getModifiers()));
        }
    }
}
