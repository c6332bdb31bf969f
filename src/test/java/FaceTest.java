import java.lang.reflect.Constructor;
import java.lang.reflect.Field;
import java.lang.reflect.Method;
import java.lang.reflect.Modifier;
import java.util.Arrays;
import java.util.TreeSet;

/** The public face is the document's, and nothing beside it. */
public final class FaceTest {
    private static final String[] METHODS = {
        "int count(int)", "int set(int,int)", "int land(int,int,int)", "int mile(int,int)",
        "int feed(int,int,int,int,int,int)", "int text()", "int force(int)", "int asks(int,int,int,int)",
        "int plane(int,int)", "int load(int,int,int)", "int told(int,int)", "int strip(int,int)",
        "int drop(int)", "int planned(int)", "int flight(int)", "int seen(int)", "int gap(int)",
        "int spare(int)", "int again(int)", "int apart(int,int,int,int)", "int begin(int,int)",
        "int seldom(int)", "int who(int)", "int when(int)", "int tuft(int)", "int judge(int,int)",
        "int winds(int,int)", "int kinds(int,int,int)", "int laws(int,int)", "int film(int,int)",
        "int drawn(int,int)", "long odds(int,int,int,int,int)", "int image()", "int back()",
        "int sheet(int,int,int)", "int cell(int,int,int)", "int copy(int,int,int,int,int)",
        "int landBy(int,int,int,int)", "int taken(int,int)",
    };
    private static final String[] CONSTANTS = {"int NONE", "int BAD", "int STATE", "int FULL", "long NO"};

    public static void main(String[] args) {
        Checks checks = new Checks("the face");
        checks.due("public and final", StripsFromAbove.class.getModifiers(), Modifier.PUBLIC | Modifier.FINAL);
        checks.due("in no package", StripsFromAbove.class.getPackageName().length(), 0);
        checks.same("methods", methods(checks), new TreeSet<>(Arrays.asList(METHODS)));
        checks.same("constants", constants(), new TreeSet<>(Arrays.asList(CONSTANTS)));
        Constructor<?>[] constructors = StripsFromAbove.class.getDeclaredConstructors();
        checks.due("constructors", constructors.length, 1);
        checks.due("its modifiers", constructors[0].getModifiers(), Modifier.PUBLIC);
        checks.due("its parameters", constructors[0].getParameterCount(), 0);
        checks.due("NONE", StripsFromAbove.NONE, -1);
        checks.due("BAD", StripsFromAbove.BAD, -2);
        checks.due("STATE", StripsFromAbove.STATE, -3);
        checks.due("FULL", StripsFromAbove.FULL, -4);
        checks.due("NO", StripsFromAbove.NO, -4611686018427387904L);
        checks.end();
    }

    private static TreeSet<String> methods(Checks checks) {
        TreeSet<String> found = new TreeSet<>();
        TreeSet<String> names = new TreeSet<>();
        for (Method method : StripsFromAbove.class.getDeclaredMethods()) {
            if (!Modifier.isPrivate(method.getModifiers())) {
                names.add(method.getName());
                String types = Arrays.toString(method.getParameterTypes()).replaceAll("[\\[\\] ]", "");
                found.add(method.getReturnType() + " " + method.getName() + "(" + types + ")");
                checks.due(method.getName() + " is public alone", method.getModifiers(), Modifier.PUBLIC);
            }
        }
        for (Method method : StripsFromAbove.class.getDeclaredMethods()) {
            if (Modifier.isPrivate(method.getModifiers())) {
                checks.due("private " + method.getName() + " bears a public name", names.contains(method.getName()) ? 1 : 0, 0);
            }
        }
        return found;
    }

    private static TreeSet<String> constants() {
        TreeSet<String> found = new TreeSet<>();
        for (Field field : StripsFromAbove.class.getDeclaredFields()) {
            if (!Modifier.isPrivate(field.getModifiers())) {
                boolean constant = field.getModifiers() == (Modifier.PUBLIC | Modifier.STATIC | Modifier.FINAL);
                found.add((constant ? "" : "no constant: ") + field.getType() + " " + field.getName());
            }
        }
        return found;
    }
}
