import java.lang.reflect.Constructor;
import java.lang.reflect.Field;
import java.lang.reflect.Method;
import java.lang.reflect.Modifier;
import java.util.Set;
import java.util.TreeSet;

/** The public face: just what the document lists, and nothing else that can be seen from outside. */
public final class FaceTest {
    private static final String[] METHODS = {
        "int clear()", "int append(char)", "int sheet(int, int)", "int raise(int, int)", "int planish(int, int)",
        "int bars(int)", "int tin(int, int)", "int cook(int, int)", "int baker(int, int, int)", "int sell(int, int)",
        "int read()", "int fault()", "int reason(int, boolean)", "int sheetOf(int, int)", "int potOf(int, int)",
        "int orderOf(int, int)", "int sound(int)", "int soundAgain(int)", "boolean isAlike(int, int)", "int alike()",
        "int ranked(int)", "int peal(int)", "int nearest(int)", "int wouldSound(int, int, int)", "int blowsTo(int, int)",
        "int mealsTo(int)", "int barsFor(int, int)", "int fits(int, int)", "int goodFor(int)", "int filled()",
        "int worth()", "int copper()", "int copperAgain()", "int coinsAgain()", "int barsAgain()", "int describe(int)",
        "int written(int)", "float meanSound()", "double soldShare()", "int account(int)", "int undo()", "int save()",
        "int restore()"};
    private static final Check CHECK = new Check("FaceTest");

    public static void main(String[] args) throws ReflectiveOperationException {
        constants();
        methods();
        nothingElseIsSeen();
        staticFieldsAreFinal();
        CHECK.end();
    }

    private static void constants() throws ReflectiveOperationException {
        String[] names = {"NONE", "BAD", "REFUSED", "NOTHING"};
        for (int i = 0; i < names.length; i++) {
            Field field = CopperStreet.class.getField(names[i]);
            CHECK.due(names[i], -1 - i, field.getInt(null));
            CHECK.due("modifiers of " + names[i], "public static final", Modifier.toString(field.getModifiers()));
            CHECK.due("type of " + names[i], "int", field.getType().toString());
        }
        CHECK.due("public fields", names.length, CopperStreet.class.getFields().length);
    }

    private static void methods() {
        Set<String> seen = new TreeSet<>();
        for (Method method : CopperStreet.class.getDeclaredMethods()) {
            if (Modifier.isPublic(method.getModifiers())) {
                seen.add(written(method));
                CHECK.due("modifiers of " + method.getName(), "public", Modifier.toString(method.getModifiers()));
                CHECK.due("exceptions of " + method.getName(), 0, method.getExceptionTypes().length);
            }
        }
        CHECK.due("public methods", new TreeSet<>(Set.of(METHODS)).toString(), seen.toString());
        CHECK.due("modifiers of the class", "public final", Modifier.toString(CopperStreet.class.getModifiers()));
        Constructor<?>[] constructors = CopperStreet.class.getDeclaredConstructors();
        CHECK.due("constructors", 1, constructors.length);
        CHECK.due("constructor", "public CopperStreet()", constructors[0].toString());
    }

    private static String written(Method method) {
        StringBuilder text = new StringBuilder(method.getReturnType().getName() + " " + method.getName() + "(");
        for (int i = 0; i < method.getParameterCount(); i++) {
            text.append(i > 0 ? ", " : "").append(method.getParameterTypes()[i].getName());
        }
        return text.append(")").toString();
    }

    private static void nothingElseIsSeen() {
        Set<String> names = new TreeSet<>();
        for (Method method : CopperStreet.class.getDeclaredMethods()) {
            if (Modifier.isPublic(method.getModifiers())) {
                names.add(method.getName());
            } else {
                CHECK.due(method.getName() + " is private", true, Modifier.isPrivate(method.getModifiers()));
            }
        }
        for (Method method : CopperStreet.class.getDeclaredMethods()) {
            CHECK.due(method.getName() + " has one meaning", Modifier.isPublic(method.getModifiers()), names.contains(method.getName()));
        }
        for (Field field : CopperStreet.class.getDeclaredFields()) {
            boolean isSeen = Modifier.isPublic(field.getModifiers());
            CHECK.due(field.getName() + " is private or listed", true, isSeen || Modifier.isPrivate(field.getModifiers()));
        }
        Class<?>[] inside = CopperStreet.class.getDeclaredClasses();
        CHECK.due("at most eleven classes inside", true, inside.length <= 11);
        for (Class<?> one : inside) {
            int modifiers = one.getModifiers();
            CHECK.due(one.getName() + " is static", true, Modifier.isStatic(modifiers));
            CHECK.due(one.getName() + " is seen", false, Modifier.isPublic(modifiers) || Modifier.isProtected(modifiers));
        }
    }

    private static void staticFieldsAreFinal() {
        Class<?>[] inside = CopperStreet.class.getDeclaredClasses();
        for (int i = -1; i < inside.length; i++) {
            Class<?> one = i < 0 ? CopperStreet.class : inside[i];
            for (Field field : one.getDeclaredFields()) {
                boolean isState = Modifier.isStatic(field.getModifiers()) && !Modifier.isFinal(field.getModifiers());
                CHECK.due(one.getName() + "." + field.getName() + " is static state", false, isState);
            }
        }
    }
}
