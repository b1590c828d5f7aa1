import java.lang.reflect.Field;
import java.lang.reflect.Member;
import java.lang.reflect.Method;
import java.lang.reflect.Modifier;
import java.util.Set;
import java.util.TreeSet;

/** The public face is the document's, and no other member can be seen from outside. */
public final class FaceTest {
    private static final String A = "java.lang.IllegalArgumentException";
    private static final String N = "java.util.NoSuchElementException";
    private static final String S = "java.lang.IllegalStateException";

    private static final Set<String> DUE = Set.of(
            "public int RankRows.behind(int,int,int,int) throws " + A + "," + N + "," + S,
            "public int RankRows.before(int,int,int) throws " + A + "," + N + "," + S,
            "public int RankRows.weigh(int,int,int) throws " + A + "," + N,
            "public int RankRows.find(int) throws " + N,
            "public int RankRows.sum(int,int) throws " + A + "," + N,
            "public int RankRows.next(int) throws " + N,
            "public int RankRows.place(int) throws " + N,
            "public int RankRows.entries()");

    private static int wrong = 0;

    public static void main(String[] args) {
        Class<?> face = RankRows.class;
        check("public and final", face.getModifiers() == (Modifier.PUBLIC | Modifier.FINAL));
        check("one constructor", face.getDeclaredConstructors().length == 1
                && face.getDeclaredConstructors()[0].toString().equals("public RankRows()"));
        checkMethods(face);
        for (Field field : face.getDeclaredFields()) {
            check("private: " + field, isPrivate(field));
            check("no static state: " + field,
                    !Modifier.isStatic(field.getModifiers()) || Modifier.isFinal(field.getModifiers()));
        }
        System.out.println(wrong == 0 ? "face: all as due" : "face: " + wrong + " not as due");
        if (wrong != 0) {
            System.exit(1);
        }
    }

    private static void checkMethods(Class<?> face) {
        Set<String> seen = new TreeSet<>();
        Set<String> publicNames = new TreeSet<>();
        for (Method method : face.getDeclaredMethods()) {
            if (!isPrivate(method)) {
                seen.add(method.toString());
                publicNames.add(method.getName());
            }
        }
        check("the methods are " + seen, seen.equals(DUE));
        for (Method method : face.getDeclaredMethods()) {
            check("name of its own: " + method,
                    !isPrivate(method) || !publicNames.contains(method.getName()));
        }
    }

    private static boolean isPrivate(Member member) {
        return Modifier.isPrivate(member.getModifiers());
    }

    private static void check(String what, boolean holds) {
        if (!holds) {
            wrong++;
            System.out.println("does not hold: " + what);
        }
    }
}
