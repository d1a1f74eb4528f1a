import java.lang.reflect.Constructor;
import java.lang.reflect.Field;
import java.lang.reflect.Method;
import java.lang.reflect.Modifier;
import java.util.TreeSet;

/** The public face of the document, and nothing else that can be seen (LANGUAGE.md, rule 1). */
public final class FaceTest {
    private static final Due DUE = new Due();
    private static final String METHODS = "against 3, alike 3, begin 3, blend 2, board 2, book 2, cell 2, colour 2, count 1, "
        + "cut 1, drying 2, fewest 1, free 2, good 1, islands 1, joined 2, led 3, lots 2, made 2, minutes 1, mixed 3, "
        + "order 1, piece 2, place 1, pull 2, saw 2, sheets 1, shows 1, table 3, want 2, wanted 2, why 1";

    public static void main(String[] args) {
        DUE.is("NONE", CutBoard.NONE, -1);
        DUE.is("FULL", CutBoard.FULL, -2);
        DUE.is("STATE", CutBoard.STATE, -3);
        DUE.is("NOT", CutBoard.NOT, -4);
        DUE.holds("the class is public and final",
            CutBoard.class.getModifiers() == (Modifier.PUBLIC | Modifier.FINAL));
        methods();
        fields();
        constructors();
        DUE.end();
    }

    private static void methods() {
        TreeSet<String> seen = new TreeSet<>();
        TreeSet<String> hidden = new TreeSet<>();
        for (Method method : CutBoard.class.getDeclaredMethods()) {
            boolean isPublic = Modifier.isPublic(method.getModifiers());
            DUE.holds(method + " is public or private", isPublic || Modifier.isPrivate(method.getModifiers()));
            if (isPublic) {
                seen.add(method.getName() + " " + method.getParameterCount());
                DUE.holds(method + " answers an int", method.getReturnType() == int.class);
            } else {
                hidden.add(method.getName());
            }
        }
        String all = String.join(", ", seen);
        DUE.holds("the methods are those of the document, but are " + all, all.equals(METHODS));
        for (Class<?> inside : CutBoard.class.getDeclaredClasses()) {
            DUE.holds(inside + " is static", Modifier.isStatic(inside.getModifiers()));
            DUE.holds(inside + " is not public", !Modifier.isPublic(inside.getModifiers()));
            for (Method method : inside.getDeclaredMethods()) {
                hidden.add(method.getName());
            }
        }
        for (Method method : CutBoard.class.getMethods()) {
            DUE.holds(method.getName() + " is no hidden method's name", !hidden.contains(method.getName()));
        }
    }

    private static void fields() {
        int seen = 0;
        for (Field field : CutBoard.class.getDeclaredFields()) {
            boolean isPublic = Modifier.isPublic(field.getModifiers());
            seen += isPublic ? 1 : 0;
            DUE.holds(field + " is public or private", isPublic || Modifier.isPrivate(field.getModifiers()));
            DUE.holds(field + " is not static, or final",
                !Modifier.isStatic(field.getModifiers()) || Modifier.isFinal(field.getModifiers()));
        }
        DUE.is("public fields", seen, 4);
    }

    private static void constructors() {
        Constructor<?>[] all = CutBoard.class.getDeclaredConstructors();
        DUE.is("constructors", all.length, 1);
        DUE.is("its parameters", all[0].getParameterCount(), 0);
        DUE.holds("it is public", Modifier.isPublic(all[0].getModifiers()));
    }
}
