import java.lang.reflect.Constructor;
import java.lang.reflect.Field;
import java.lang.reflect.Method;
import java.lang.reflect.Modifier;
import java.util.Set;
import java.util.TreeSet;

/** The class has the public face of the document and nothing more; each class inside is private and static. */
public final class FaceTest {
    private static final String[] FACE = {
        "boolean again()", "boolean back()", "boolean board(int,int)", "boolean law(int,int,boolean,int,int)",
        "boolean line(int,int,int)", "boolean needed(int)", "boolean ring()", "boolean stop()",
        "int about(int)", "int begin(int)", "int best()", "int count(int,int)", "int deep()", "int field(int)",
        "int go(int,int,int)", "int most(int)", "int on(int)", "int piece(int,int)", "int solve()",
        "int stand(int,int)", "int took(int)", "int why(int,int,int)", "int worth()"
    };

    public static void main(String[] args) {
        Check check = new Check();
        Set<String> face = new TreeSet<>(Set.of(FACE));
        Set<String> found = new TreeSet<>();
        Set<String> publicNames = new TreeSet<>();
        for (Method m : KingTable.class.getDeclaredMethods()) {
            if (Modifier.isPublic(m.getModifiers())) {
                found.add(told(m));
                publicNames.add(m.getName());
                check.due(m.getName() + " is no static method", false, Modifier.isStatic(m.getModifiers()));
            }
        }
        check.due("the public methods are " + found, true, found.equals(face));
        for (Method m : KingTable.class.getDeclaredMethods()) {
            if (!Modifier.isPublic(m.getModifiers())) {
                check.due(m + " is private", true, Modifier.isPrivate(m.getModifiers()));
                check.due(m + " has a name of its own", false, publicNames.contains(m.getName()));
            }
        }
        for (Field f : KingTable.class.getDeclaredFields()) {
            boolean none = f.getName().equals("NONE");
            check.due(f + " is public", none, Modifier.isPublic(f.getModifiers()));
            check.due(f + " is private", !none, Modifier.isPrivate(f.getModifiers()));
        }
        Constructor<?>[] makers = KingTable.class.getDeclaredConstructors();
        check.due("constructors", 1, makers.length);
        check.due("its parameters", 0, makers[0].getParameterCount());
        check.due("it is public", true, Modifier.isPublic(makers[0].getModifiers()));
        check.due("the class is final", true, Modifier.isFinal(KingTable.class.getModifiers()));
        for (Class<?> c : KingTable.class.getDeclaredClasses()) {
            check.due(c + " is static", true, Modifier.isStatic(c.getModifiers()));
            check.due(c + " is private", true, Modifier.isPrivate(c.getModifiers()));
        }
        check.due("NONE", -1, KingTable.NONE);
        check.end();
    }

    private static String told(Method m) {
        StringBuilder text = new StringBuilder(m.getReturnType().getName()).append(' ').append(m.getName()).append('(');
        for (int i = 0; i < m.getParameterCount(); i++) {
            text.append(i > 0 ? "," : "").append(m.getParameterTypes()[i].getName());
        }
        return text.append(')').toString();
    }
}
