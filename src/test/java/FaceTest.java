import java.lang.reflect.Constructor;
import java.lang.reflect.Field;
import java.lang.reflect.Method;
import java.lang.reflect.Modifier;
import java.util.Set;
import java.util.TreeSet;

/** The public face is the document's and nothing beside it. */
public final class FaceTest {
    private static final Due DUE = new Due();
    private static final String[] FACE = {
        "int ropes(int)", "int tie(int)", "int add(int,int)", "int drop(int)", "int flip(int,int)",
        "int of(int,int)", "int turn(int,int)", "int as(int,int)", "int lays(int,int)", "int like(int,int)",
        "int pull(int)", "int left(int)", "int rest(int,int)", "int slide(int,int)", "int third(int,int)",
        "int moves(int,int)", "int steps(int)", "int ends(int,int)", "int sum(int)", "int links(int,int,int)",
        "int rings(int)", "int colours(int,int)", "int shows(int)", "int apart(int,int)", "int same(int,int)",
        "int which(int)", "int fewest(int)", "int turned(int)", "int best(int)", "int ways(int,int)",
        "int lay(int,int)", "int seed(int)", "int feed(int,int)", "int wipe()", "int text()",
        "int sheet(int,int,int)", "long write(int,int,long)", "int copy(int,int,int,int,int)",
        "int load(int,int)", "int show(int,int)", "int read(int)", "int image()", "int undo()", "int tear()",
        "int count(int)", "int status(int)"};

    public static void main(String[] args) {
        Set<String> face = new TreeSet<>(Set.of(FACE));
        Set<String> there = new TreeSet<>();
        for (Method m : KnotFair.class.getDeclaredMethods()) {
            if (Modifier.isPublic(m.getModifiers())) {
                there.add(told(m));
            } else {
                DUE.holds(m + " is private", Modifier.isPrivate(m.getModifiers()));
            }
        }
        DUE.is("methods of the face", there.size(), FACE.length);
        DUE.holds("the face, got " + there, there.equals(face));
        for (Field f : KnotFair.class.getDeclaredFields()) {
            DUE.holds(f + " is private", Modifier.isPrivate(f.getModifiers()));
        }
        Constructor<?>[] constructors = KnotFair.class.getDeclaredConstructors();
        DUE.is("constructors", constructors.length, 1);
        DUE.holds("it is public", Modifier.isPublic(constructors[0].getModifiers()));
        DUE.is("it takes", constructors[0].getParameterCount(), 0);
        DUE.holds("final", Modifier.isFinal(KnotFair.class.getModifiers()));
        noPrivateNamesake();
        DUE.end();
    }

    private static String told(Method m) {
        StringBuilder b = new StringBuilder();
        b.append(m.getReturnType().getName()).append(' ').append(m.getName()).append('(');
        for (int k = 0; k < m.getParameterCount(); k++) {
            b.append(k == 0 ? "" : ",").append(m.getParameterTypes()[k].getName());
        }
        return b.append(')').toString();
    }

    /** In the classes inside, too. */
    private static void noPrivateNamesake() {
        Set<String> names = new TreeSet<>();
        for (String call : FACE) {
            names.add(call.substring(call.indexOf(' ') + 1, call.indexOf('(')));
        }
        privateNamesAreOthers(KnotFair.class, names);
        for (Class<?> inside : KnotFair.class.getDeclaredClasses()) {
            DUE.holds(inside + " is static", Modifier.isStatic(inside.getModifiers()));
            DUE.holds(inside + " is not public", !Modifier.isPublic(inside.getModifiers()));
            privateNamesAreOthers(inside, names);
        }
    }

    private static void privateNamesAreOthers(Class<?> c, Set<String> names) {
        for (Method m : c.getDeclaredMethods()) {
            if (Modifier.isPrivate(m.getModifiers())) {
                DUE.holds(m + " has a name of its own", !names.contains(m.getName()));
            }
        }
    }
}
