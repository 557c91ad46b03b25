import java.lang.reflect.Constructor;
import java.lang.reflect.Field;
import java.lang.reflect.Method;
import java.lang.reflect.Modifier;
import java.util.ArrayList;
import java.util.Collections;
import java.util.List;

/** The public face, word for word, and that nothing else can be seen from outside. */
public final class FaceTest {
    private static final String I = "IndexOutOfBoundsException";
    private static final String A = "IllegalArgumentException";
    private static final String S = "IllegalStateException";

    private static final String[] FACE = {
        "int wrestler(int,int,int) " + A + " " + S,
        "int title() " + S,
        "int clause(int,int,int) " + I + " " + A,
        "int protect(int,int) " + I + " " + A,
        "int book(int,int,int,int,boolean,int,int) " + I + " " + A + " " + S,
        "int strike(int,int) " + I + " " + S,
        "boolean shoot(int) " + I + " " + S,
        "int hurt(int,int) " + I + " " + A,
        "int head(int) " + I,
        "int mend() " + S,
        "int play() " + S,
        "int promo(int,int,int) " + I + " " + A + " " + S,
        "int pass() " + S,
        "int day()",
        "int ofWrestler(int,int) " + I + " " + A,
        "int love(int,int) " + I,
        "int worth(int,int) " + I,
        "int ofCard(int,int) " + A,
        "int ofMatch(int,int,int) " + I + " " + A,
        "int lineage(int,int,boolean) " + I,
        "int champion(int) " + I,
        "int beat(int,int) " + I,
        "int beatAnew(int,int) " + I,
        "int gate(int) " + I,
        "int mending() " + S,
        "int mendingAnew() " + S,
    };

    public static void main(String[] args) throws Exception {
        List<String> want = new ArrayList<>(List.of(FACE));
        List<String> got = new ArrayList<>();
        List<String> publicNames = new ArrayList<>();
        for (Method method : KayfabeRing.class.getDeclaredMethods()) {
            if (Modifier.isPublic(method.getModifiers())) {
                publicNames.add(method.getName());
                got.add(told(method));
            }
        }
        Collections.sort(want);
        Collections.sort(got);
        Check.due("the public methods", want.toString(), got.toString());
        lookAtHidden(KayfabeRing.class, publicNames);
        for (Class<?> inside : KayfabeRing.class.getDeclaredClasses()) {
            lookAtHidden(inside, publicNames);
            Check.due(inside + " is static", 1, Modifier.isStatic(inside.getModifiers()) ? 1 : 0);
            Check.due(inside + " is not public", 0, Modifier.isPublic(inside.getModifiers()) ? 1 : 0);
        }
        lookAtConstants();
        Constructor<?>[] constructors = KayfabeRing.class.getDeclaredConstructors();
        Check.due("constructors", 1, constructors.length);
        Check.due("its parameters", 0, constructors[0].getParameterCount());
        Check.due("it is public", 1, Modifier.isPublic(constructors[0].getModifiers()) ? 1 : 0);
        Check.due("the class is public and final", Modifier.PUBLIC | Modifier.FINAL,
            KayfabeRing.class.getModifiers());
        Check.finish();
    }

    private static String told(Method method) {
        StringBuilder text = new StringBuilder();
        text.append(method.getReturnType().getName()).append(' ').append(method.getName()).append('(');
        Class<?>[] parameters = method.getParameterTypes();
        for (int i = 0; i < parameters.length; i++) {
            text.append(i == 0 ? "" : ",").append(parameters[i].getName());
        }
        text.append(')');
        for (Class<?> exception : method.getExceptionTypes()) {
            text.append(' ').append(exception.getSimpleName());
        }
        return text.toString();
    }

    private static void lookAtHidden(Class<?> type, List<String> publicNames) {
        for (Method method : type.getDeclaredMethods()) {
            boolean isHidden = type != KayfabeRing.class || !Modifier.isPublic(method.getModifiers());
            if (isHidden && !method.isSynthetic()) {
                Check.due(type + " hides " + method.getName(), 0, publicNames.contains(method.getName()) ? 1 : 0);
            }
            if (type == KayfabeRing.class && isHidden && !method.isSynthetic()) {
                Check.due(method + " is private", 1, Modifier.isPrivate(method.getModifiers()) ? 1 : 0);
            }
        }
    }

    private static void lookAtConstants() throws Exception {
        List<String> seen = new ArrayList<>();
        for (Field field : KayfabeRing.class.getDeclaredFields()) {
            int modifiers = field.getModifiers();
            if (!Modifier.isPrivate(modifiers)) {
                Check.due(field + " is a public constant", Modifier.PUBLIC | Modifier.STATIC | Modifier.FINAL,
                    modifiers);
                seen.add(field.getName() + "=" + field.getInt(null));
            }
            if (Modifier.isStatic(modifiers)) {
                Check.due(field + " is final", 1, Modifier.isFinal(modifiers) ? 1 : 0);
            }
        }
        Collections.sort(seen);
        Check.due("the constants", "[FACE=0, FOREVER=10000, HEEL=1, NONE=-1]", seen.toString());
    }
}
