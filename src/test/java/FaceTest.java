import java.lang.reflect.Constructor;
import java.lang.reflect.Field;
import java.lang.reflect.Method;
import java.lang.reflect.Modifier;
import java.util.Arrays;
import java.util.Set;
import java.util.TreeSet;

/** The public face is the document's, whole, and nothing else can be seen from outside (rule 1). */
public final class FaceTest {
    private static final Set<String> CALLS = new TreeSet<>(Arrays.asList(
        "int kind(int,int,int)", "int recipe(int)", "int part(int,int,int)", "int rule(int,int)",
        "int receive(int,int)", "int issue(int,int,int)", "int lend(int,int,int)",
        "int sell(int,int,int,int,int)", "int lose(int,int,int,int)", "int weigh(int,int,int,int)",
        "int undo()", "int keeper(int,int)", "int night()",
        "int has(int,int)", "int all(int,int)", "int gap(int,int,int,int)", "long over(int,int,int)",
        "int leans(int,int)", "int takings(int)",
        "int foretell(int,int)", "int forget()", "int press(int)", "int makes(int)", "int fewest(int)",
        "int most(int)",
        "int priceRule(int,int,int,int)", "int price(int,int,int)", "int person(int,int,int)",
        "int tips(int,int)", "int keg(int,int)", "int deal(int,int)", "int buy(int,int)", "int count(int)"));

    public static void main(String[] args) {
        Class<?> face = BarMeasure.class;
        if (!Modifier.isPublic(face.getModifiers()) || !Modifier.isFinal(face.getModifiers())) {
            Due.tell("BarMeasure is not public and final");
        }
        checkConstants();
        checkConstructors(face);
        checkMethods(face);
        checkFields(face);
        checkClassesInside(face);
        Due.end();
    }

    private static void checkConstants() {
        Due.is("BAD", BarMeasure.BAD, -1);
        Due.is("NO", BarMeasure.NO, -2);
        Due.is("FULL", BarMeasure.FULL, -3);
        Due.is("NONE", BarMeasure.NONE, -4);
    }

    private static void checkConstructors(Class<?> face) {
        Due.is("number of constructors", face.getDeclaredConstructors().length, 1);
        for (Constructor<?> made : face.getDeclaredConstructors()) {
            if (!Modifier.isPublic(made.getModifiers()) || made.getParameterCount() != 0) {
                Due.tell("not the constructor of the document: " + made);
            }
        }
    }

    private static void checkMethods(Class<?> face) {
        Set<String> seen = new TreeSet<>();
        Set<String> names = new TreeSet<>();
        for (Method method : face.getDeclaredMethods()) {
            if (!Modifier.isPrivate(method.getModifiers())) {
                seen.add(signature(method));
                names.add(method.getName());
            }
        }
        if (!seen.equals(CALLS)) {
            Due.tell("the calls are " + seen + ", due are " + CALLS);
        }
        for (Method method : face.getDeclaredMethods()) {
            if (Modifier.isPrivate(method.getModifiers()) && names.contains(method.getName())) {
                Due.tell("a private method bears the name of a public one: " + method);
            }
        }
    }

    private static String signature(Method method) {
        StringBuilder text = new StringBuilder(method.getReturnType() + " " + method.getName() + "(");
        for (int i = 0; i < method.getParameterCount(); i++) {
            text.append(i == 0 ? "" : ",").append(method.getParameterTypes()[i]);
        }
        return text.append(")").toString();
    }

    private static void checkFields(Class<?> face) {
        Set<String> constants = new TreeSet<>(Arrays.asList("BAD", "NO", "FULL", "NONE"));
        for (Field field : face.getDeclaredFields()) {
            if (!Modifier.isPrivate(field.getModifiers()) && !constants.remove(field.getName())) {
                Due.tell("a field that can be seen: " + field);
            }
            if (Modifier.isStatic(field.getModifiers()) && !Modifier.isFinal(field.getModifiers())) {
                Due.tell("a static field that is not final: " + field);
            }
        }
        if (!constants.isEmpty()) {
            Due.tell("constants that are missing: " + constants);
        }
    }

    private static void checkClassesInside(Class<?> face) {
        for (Class<?> inside : face.getDeclaredClasses()) {
            int modifiers = inside.getModifiers();
            if (Modifier.isPublic(modifiers) || Modifier.isProtected(modifiers) || !Modifier.isStatic(modifiers)) {
                Due.tell("a class inside that is not hidden and static: " + inside);
            }
        }
    }
}
