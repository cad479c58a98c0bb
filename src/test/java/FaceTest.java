import java.lang.reflect.Constructor;
import java.lang.reflect.Field;
import java.lang.reflect.Method;
import java.lang.reflect.Modifier;
import java.util.Arrays;
import java.util.List;
import java.util.TreeSet;

/** The public face, and promise 1: a new object. */
public final class FaceTest {
    private static final List<String> METHODS = List.of(
            "boolean write(long)", "int compile()", "int position()", "int object(int,int)",
            "void clear()", "int link()", "int failure()", "int image(int)", "boolean restart()",
            "int run(int)", "int about(int)", "int stack(int)", "int top()");

    public static void main(String[] args) {
        checkClass();
        checkMethods();
        checkNewObject();
        checkObjectsApart();
        Trial.end();
    }

    private static void checkClass() {
        Class<?> face = LispForge.class;
        Trial.due("the class is public and final", true,
                Modifier.isPublic(face.getModifiers()) && Modifier.isFinal(face.getModifiers()));
        Trial.due("NONE", -1, LispForge.NONE);
        for (Field field : face.getDeclaredFields()) {
            boolean isConstant = field.getName().equals("NONE");
            Trial.due(field + " has its access", true,
                    isConstant ? Modifier.isPublic(field.getModifiers())
                            : Modifier.isPrivate(field.getModifiers()));
            if (Modifier.isStatic(field.getModifiers())) {
                Trial.due(field + " is final", true, Modifier.isFinal(field.getModifiers()));
            }
        }
        Constructor<?>[] constructors = face.getDeclaredConstructors();
        Trial.due("constructors", 1, constructors.length);
        Trial.due("the constructor is public, without parameters", true,
                Modifier.isPublic(constructors[0].getModifiers())
                        && constructors[0].getParameterCount() == 0);
        for (Class<?> inside : face.getDeclaredClasses()) {
            Trial.due(inside + " is static, not public", true,
                    Modifier.isStatic(inside.getModifiers())
                            && !Modifier.isPublic(inside.getModifiers())
                            && !Modifier.isProtected(inside.getModifiers()));
        }
    }

    private static void checkMethods() {
        TreeSet<String> found = new TreeSet<>();
        TreeSet<String> publicNames = new TreeSet<>();
        for (Method method : LispForge.class.getDeclaredMethods()) {
            if (Modifier.isPublic(method.getModifiers())) {
                StringBuilder parameters = new StringBuilder();
                for (Class<?> type : method.getParameterTypes()) {
                    parameters.append(parameters.length() == 0 ? "" : ",").append(type);
                }
                found.add(method.getReturnType() + " " + method.getName()
                        + "(" + parameters + ")");
                publicNames.add(method.getName());
            }
        }
        Trial.due("the public methods", new TreeSet<>(METHODS).toString(), found.toString());
        for (Method method : LispForge.class.getDeclaredMethods()) {
            if (!Modifier.isPublic(method.getModifiers())) {
                Trial.due(method + " is private, with a name of its own", true,
                        Modifier.isPrivate(method.getModifiers())
                                && !publicNames.contains(method.getName()));
            }
        }
        for (String name : Arrays.asList("compile", "link", "run")) {
            for (Method method : LispForge.class.getDeclaredMethods()) {
                if (method.getName().equals(name)) {
                    Trial.due(name + " tells what it throws",
                            name.equals("compile") ? 3 : 1, method.getExceptionTypes().length);
                }
            }
        }
    }

    private static void checkNewObject() {
        Trial trial = new Trial();
        Trial.due("position", -1, trial.forge.position());
        Trial.due("object(0, -1)", -1, trial.forge.object(0, -1));
        Trial.due("object(0, 0)", -1, trial.forge.object(0, 0));
        Trial.due("failure", 0, trial.forge.failure());
        Trial.due("image(-1)", 0, trial.forge.image(-1));
        Trial.due("image(0)", -1, trial.forge.image(0));
        Trial.due("restart", false, trial.forge.restart());
        Trial.due("about", "0 0 0 0 0 0", trial.about());
        Trial.due("run", 0, trial.run(500));
        Trial.due("about behind run", "0 0 0 0 0 0", trial.about());
        Trial.due("stack(0)", 0, trial.forge.stack(0));
        Trial.due("top", 0, trial.forge.top());
        Trial.due("compile of no text", Trial.NO_FORM, trial.compile());
        Trial.due("its position", 0, trial.forge.position());
        Trial.due("link of no units", Trial.REFUSED, trial.link());
        Trial.due("no macro", 0, trial.compile("(m 1)"));
    }

    private static void checkObjectsApart() {
        Trial one = new Trial().with("(mac m () 1)", "(m)");
        Trial other = new Trial();
        one.link();
        one.type("(");
        Trial.due("the other's units", 0, other.compile("(m)"));
        Trial.due("the other's object", "0 0 0 0 5 12 0 0 0 14 1 0 1 1 109", other.object(0));
        Trial.due("the other's image", 0, other.forge.image(-1));
    }
}
