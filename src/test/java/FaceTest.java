import java.lang.reflect.Constructor;
import java.lang.reflect.Field;
import java.lang.reflect.Method;
import java.lang.reflect.Modifier;
import java.util.HashSet;
import java.util.Set;

/** The public face of the document, as it stands, and no more; rules 1 and 5 of the language. */
public final class FaceTest {
    private static final Check CHECK = new Check();
    private static final String[] METHODS = {
        "secret 1", "face 2", "shared 3", "agreed 3", "mix 4", "sealed 4", "signed 3", "row 2", "alter 4", "swap 4",
        "part 3", "give 1", "derived 1", "same 2", "good 1", "about 2", "count 1"
    };

    public static void main(String[] args) {
        CHECK.holds("the class is public and final",
            TermSpread.class.getModifiers() == (Modifier.PUBLIC | Modifier.FINAL));
        methodsAreThoseOfTheDocument();
        fieldsArePrivateButNone();
        constructorIsOneAndPublic();
        CHECK.end();
    }

    private static void methodsAreThoseOfTheDocument() {
        Set<String> due = new HashSet<>(Set.of(METHODS));
        Set<String> names = new HashSet<>();
        for (String method : METHODS) {
            names.add(method.substring(0, method.indexOf(' ')));
        }
        for (Method method : TermSpread.class.getDeclaredMethods()) {
            boolean isPublic = method.getModifiers() == Modifier.PUBLIC;
            CHECK.holds(method + " is public or private", isPublic || Modifier.isPrivate(method.getModifiers()));
            if (isPublic) {
                CHECK.holds(method + " is due", due.remove(method.getName() + " " + method.getParameterCount()));
                takesAndAnswersInts(method);
            } else {
                CHECK.holds(method + " has a name of its own", !names.contains(method.getName()));
            }
        }
        CHECK.holds("no method is missing: " + due, due.isEmpty());
    }

    private static void takesAndAnswersInts(Method method) {
        CHECK.holds(method + " answers an int", method.getReturnType() == int.class);
        for (Class<?> type : method.getParameterTypes()) {
            CHECK.holds(method + " takes ints", type == int.class);
        }
    }

    private static void fieldsArePrivateButNone() {
        for (Field field : TermSpread.class.getDeclaredFields()) {
            int modifiers = field.getModifiers();
            boolean isNone = field.getName().equals("NONE");
            CHECK.holds(field + " is private", isNone ? Modifier.isPublic(modifiers) : Modifier.isPrivate(modifiers));
            CHECK.holds(field + " is no static state", !Modifier.isStatic(modifiers) || Modifier.isFinal(modifiers));
        }
        CHECK.due("NONE", TermSpread.NONE, -1);
    }

    private static void constructorIsOneAndPublic() {
        Constructor<?>[] all = TermSpread.class.getDeclaredConstructors();
        CHECK.due("constructors", all.length, 1);
        CHECK.due("its parameters", all[0].getParameterCount(), 0);
        CHECK.holds("it is public", Modifier.isPublic(all[0].getModifiers()));
    }
}
