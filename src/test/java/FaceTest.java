import java.io.IOException;
import java.lang.reflect.Constructor;
import java.lang.reflect.Field;
import java.lang.reflect.Method;
import java.lang.reflect.Modifier;
import java.nio.file.Files;
import java.nio.file.Path;
import java.util.Arrays;
import java.util.Set;
import java.util.TreeSet;
import java.util.regex.Matcher;
import java.util.regex.Pattern;

/** The class shows the document's face and nothing else. */
public final class FaceTest {
    private static final String INDEX = " IndexOutOfBoundsException";
    private static final String ARGUMENT = " IllegalArgumentException";
    private static final String STATE = " IllegalStateException";
    private static final String[] CALLS = {
        "void setRates(int,int,int,int)" + INDEX + ARGUMENT,
        "int setFee(int,int,int)" + INDEX + ARGUMENT,
        "boolean setCrossed(boolean)",
        "int add(int,int,int,int,int)" + INDEX + ARGUMENT + STATE,
        "int receive(int,int,int)" + INDEX + ARGUMENT,
        "int spend(int,int)" + INDEX + ARGUMENT,
        "int audit(int,int,int,int)" + INDEX + ARGUMENT + STATE,
        "int closeYear()" + STATE,
        "int pay(int)" + INDEX + STATE,
        "int year()",
        "int gross(int)" + INDEX,
        "int adjusted(int)" + INDEX,
        "int fees(int)" + INDEX,
        "int balance(int,int)" + INDEX + ARGUMENT,
        "int profit(int,int)" + INDEX + ARGUMENT,
        "int pool(int)" + INDEX,
        "int sharers()",
        "int sum(int)" + INDEX,
        "int paid(int)" + INDEX,
        "int owed(int)" + INDEX,
    };
    private static final String[] CONSTANTS = {"GROSS", "NET", "DEFERMENT", "BONUS"};
    private static final String[] HEADINGS = {
        "terms: setRates setFee setCrossed add",
        "what comes and goes: receive spend audit closeYear pay",
        "statements: year gross adjusted fees balance profit pool sharers sum paid owed",
    };

    private FaceTest() {
    }

    public static void main(String[] args) throws IOException {
        int kind = NetPoints.class.getModifiers();
        Check.holds("the class is public and final", Modifier.isPublic(kind) && Modifier.isFinal(kind));
        callsAreThoseOfTheDocument();
        constantsAreThoseOfTheDocument();
        Constructor<?>[] made = NetPoints.class.getDeclaredConstructors();
        Check.holds("one public constructor without parameters", made.length == 1
            && made[0].getParameterCount() == 0 && Modifier.isPublic(made[0].getModifiers()));
        classesInsideAreHidden();
        callsStandUnderTheirHeadings();
        Check.finish();
    }

    private static void callsAreThoseOfTheDocument() {
        Set<String> shown = new TreeSet<>();
        Set<String> names = new TreeSet<>();
        for (Method method : NetPoints.class.getDeclaredMethods()) {
            if (Modifier.isPublic(method.getModifiers())) {
                names.add(method.getName());
                shown.add(told(method));
                Check.holds(method + " is of an object", !Modifier.isStatic(method.getModifiers()));
            } else {
                Check.holds(method + " is private", Modifier.isPrivate(method.getModifiers()));
            }
        }
        Check.holds("public methods: " + shown, shown.equals(new TreeSet<>(Arrays.asList(CALLS))));
        for (Method method : NetPoints.class.getDeclaredMethods()) {
            Check.holds(method + " bears no public name",
                Modifier.isPublic(method.getModifiers()) || !names.contains(method.getName()));
        }
    }

    private static String told(Method method) {
        StringBuilder text = new StringBuilder();
        text.append(method.getReturnType().getName()).append(' ').append(method.getName()).append('(');
        for (Class<?> type : method.getParameterTypes()) {
            text.append(text.charAt(text.length() - 1) == '(' ? "" : ",").append(type.getName());
        }
        text.append(')');
        for (Class<?> type : method.getExceptionTypes()) {
            text.append(' ').append(type.getSimpleName());
        }
        return text.toString();
    }

    private static void constantsAreThoseOfTheDocument() {
        Set<String> shown = new TreeSet<>();
        for (Field field : NetPoints.class.getDeclaredFields()) {
            int how = field.getModifiers();
            if (Modifier.isPublic(how)) {
                shown.add(field.getName());
                Check.holds(field + " is a constant", Modifier.isStatic(how) && Modifier.isFinal(how)
                    && field.getType() == int.class);
            } else {
                Check.holds(field + " is private", Modifier.isPrivate(how));
            }
        }
        Check.holds("constants: " + shown, shown.equals(new TreeSet<>(Arrays.asList(CONSTANTS))));
        Check.same("GROSS", NetPoints.GROSS, 0);
        Check.same("NET", NetPoints.NET, 1);
        Check.same("DEFERMENT", NetPoints.DEFERMENT, 2);
        Check.same("BONUS", NetPoints.BONUS, 3);
    }

    private static void classesInsideAreHidden() {
        for (Class<?> inside : NetPoints.class.getDeclaredClasses()) {
            int how = inside.getModifiers();
            Check.holds(inside + " is hidden and static",
                !Modifier.isPublic(how) && !Modifier.isProtected(how) && Modifier.isStatic(how));
        }
    }

    private static void callsStandUnderTheirHeadings() throws IOException {
        Check.sentence("Ahead of the calls the interface says: ----");
        String source = Files.readString(Path.of("src/main/java/NetPoints.java"));
        Pattern headingOrCall = Pattern.compile("(?m)^    (?:// ---- (.+)|public \\w+ (\\w+)\\()");
        StringBuilder shown = new StringBuilder();
        Matcher found = headingOrCall.matcher(source);
        while (found.find()) {
            if (found.group(1) != null) {
                shown.append('\n').append(found.group(1)).append(':');
            } else {
                shown.append(' ').append(found.group(2));
            }
        }
        for (String heading : HEADINGS) {
            Check.holds(heading + " in" + shown, (shown + "\n").contains("\n" + heading + "\n"));
        }
    }
}
