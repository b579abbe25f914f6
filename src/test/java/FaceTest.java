import java.lang.reflect.Constructor;
import java.lang.reflect.Field;
import java.lang.reflect.Method;
import java.lang.reflect.Modifier;
import java.util.Arrays;
import java.util.Set;
import java.util.TreeSet;

/** The class shows the document's face and nothing else. */
public final class FaceTest {
    private static final String[] CALLS = {
        "void setRates(int,int,int,int)", "int setFee(int,int,int)", "boolean setCrossed(boolean)",
        "int add(int,int,int,int,int)", "int receive(int,int,int)", "int spend(int,int)",
        "int audit(int,int,int,int)", "int closeYear()", "int pay(int)", "int year()",
        "int gross(int)", "int adjusted(int)", "int fees(int)", "int balance(int,int)",
        "int profit(int,int)", "int pool(int)", "int sharers()", "int sum(int)", "int paid(int)",
        "int owed(int)",
    };
    private static final String[] CONSTANTS = {"GROSS", "NET", "DEFERMENT", "BONUS"};

    private FaceTest() {
    }

    public static void main(String[] args) {
        int kind = NetPoints.class.getModifiers();
        Check.holds("the class is public and final", Modifier.isPublic(kind) && Modifier.isFinal(kind));
        callsAreThoseOfTheDocument();
        constantsAreThoseOfTheDocument();
        Constructor<?>[] made = NetPoints.class.getDeclaredConstructors();
        Check.holds("one public constructor without parameters", made.length == 1
            && made[0].getParameterCount() == 0 && Modifier.isPublic(made[0].getModifiers()));
        classesInsideAreHidden();
        Check.finish();
    }

    private static void callsAreThoseOfTheDocument() {
        Set<String> shown = new TreeSet<>();
        Set<String> names = new TreeSet<>();
        for (Method method : NetPoints.class.getDeclaredMethods()) {
            if (Modifier.isPublic(method.getModifiers())) {
                names.add(method.getName());
                shown.add(told(method));
                Check.holds(method + " is of an object", !Modifier.isStatic(method.getModifiers()));
            } else {
                Check.holds(method + " is private", Modifier.isPrivate(method.getModifiers()));
            }
        }
        Check.holds("public methods: " + shown, shown.equals(new TreeSet<>(Arrays.asList(CALLS))));
        for (Method method : NetPoints.class.getDeclaredMethods()) {
            Check.holds(method + " bears no public name",
                Modifier.isPublic(method.getModifiers()) || !names.contains(method.getName()));
        }
    }

    private static String told(Method method) {
        StringBuilder text = new StringBuilder();
        text.append(method.getReturnType().getName()).append(' ').append(method.getName()).append('(');
        for (Class<?> type : method.getParameterTypes()) {
            text.append(text.charAt(text.length() - 1) == '(' ? "" : ",").append(type.getName());
        }
        return text.append(')').toString();
    }

    private static void constantsAreThoseOfTheDocument() {
        Set<String> shown = new TreeSet<>();
        for (Field field : NetPoints.class.getDeclaredFields()) {
            int how = field.getModifiers();
            if (Modifier.isPublic(how)) {
                shown.add(field.getName());
                Check.holds(field + " is a constant", Modifier.isStatic(how) && Modifier.isFinal(how)
                    && field.getType() == int.class);
            } else {
                Check.holds(field + " is private", Modifier.isPrivate(how));
            }
        }
        Check.holds("constants: " + shown, shown.equals(new TreeSet<>(Arrays.asList(CONSTANTS))));
    }

    private static void classesInsideAreHidden() {
        for (Class<?> inside : NetPoints.class.getDeclaredClasses()) {
            int how = inside.getModifiers();
            Check.holds(inside + " is hidden and static",
                !Modifier.isPublic(how) && !Modifier.isProtected(how) && Modifier.isStatic(how));
        }
    }
}
