import java.io.IOException;
import java.lang.reflect.Constructor;
import java.lang.reflect.Field;
import java.lang.reflect.Method;
import java.lang.reflect.Modifier;
import java.nio.file.Files;
import java.nio.file.Path;
import java.util.Set;
import java.util.TreeSet;

/** The public face, and those rules of LANGUAGE.md that can be seen from outside or by words of the source. */
public final class FaceTests {
    private static final String[] FACE = {
        "float mean()", "int back(int)", "int begin(int)", "int fault(int)", "int goal(int,int)",
        "int hold(int,int)", "int insert(int,int)", "int keep(int)", "int load()", "int log(int,int)",
        "int loop(int,int,int)", "int magnet(int,int)", "int moved(int,int)", "int points(int)",
        "int push(int,int)", "int remove(int)", "int reverse()", "int set(int,int)", "int shed()",
        "int solve(int,int)", "int told(int)", "int undo()", "int wipe()", "int write(int)",
    };
    private static final String[] RULED_OUT = {
        "->", "::", "try", "catch", "finally", "throw", "throws", "synchronized", "assert", "Exact", "Object",
        "double", "protected", "package", "static {", "instanceof", "System.out", "Random", "Thread",
    };

    private static final Due due = new Due();

    public static void main(String[] args) throws IOException {
        constants();
        methods();
        nestedClasses();
        source(Files.readString(Path.of(args[0])));
        due.end("FaceTests");
    }

    private static void constants() {
        due.is("BAD", MagnetChain.BAD, -1000000001);
        due.is("STATE", MagnetChain.STATE, -1000000002);
        due.is("FULL", MagnetChain.FULL, -1000000003);
        due.is("NONE", MagnetChain.NONE, -1000000009);
        Set<String> open = new TreeSet<>();
        for (Field field : MagnetChain.class.getDeclaredFields()) {
            if (!Modifier.isPrivate(field.getModifiers())) {
                open.add(field.getName());
            }
            staticIsFinal(field);
        }
        due.holds("constants are " + open, open.equals(Set.of("BAD", "STATE", "FULL", "NONE")));
    }

    private static void staticIsFinal(Field field) {
        int modifiers = field.getModifiers();
        due.holds(field + " is final if it is static", !Modifier.isStatic(modifiers) || Modifier.isFinal(modifiers));
    }

    private static void methods() {
        due.is("modifiers of the class", MagnetChain.class.getModifiers(), Modifier.PUBLIC | Modifier.FINAL);
        Constructor<?>[] constructors = MagnetChain.class.getDeclaredConstructors();
        due.is("constructors", constructors.length, 1);
        due.is("a constructor's arguments", constructors[0].getParameterCount(), 0);
        due.holds("the constructor is public", Modifier.isPublic(constructors[0].getModifiers()));
        Set<String> open = new TreeSet<>();
        Set<String> openNames = new TreeSet<>();
        for (Method method : MagnetChain.class.getDeclaredMethods()) {
            if (!Modifier.isPrivate(method.getModifiers())) {
                due.is("modifiers of " + method, method.getModifiers(), Modifier.PUBLIC);
                open.add(told(method));
                openNames.add(method.getName());
            }
        }
        due.holds("the face is " + open, open.equals(new TreeSet<>(Set.of(FACE))));
        for (Method method : MagnetChain.class.getDeclaredMethods()) {
            due.holds("no private method has a public one's name: " + method,
                    !Modifier.isPrivate(method.getModifiers()) || !openNames.contains(method.getName()));
            due.holds("few parameters: " + method, method.getParameterCount() <= 7);
        }
    }

    private static String told(Method method) {
        StringBuilder told = new StringBuilder();
        told.append(method.getReturnType().getSimpleName()).append(' ').append(method.getName()).append('(');
        for (Class<?> type : method.getParameterTypes()) {
            told.append(told.charAt(told.length() - 1) == '(' ? "" : ",").append(type.getSimpleName());
        }
        return told.append(')').toString();
    }

    private static void nestedClasses() {
        Class<?>[] inside = MagnetChain.class.getDeclaredClasses();
        due.holds("at most twelve classes", inside.length < 12);
        for (Class<?> one : inside) {
            due.holds(one + " is private and static", Modifier.isPrivate(one.getModifiers())
                    && Modifier.isStatic(one.getModifiers()));
            for (Field field : one.getDeclaredFields()) {
                staticIsFinal(field);
            }
        }
    }

    /** Objects are made with a new MagnetChain alone, so no call can fill the room. */
    private static void source(String text) {
        String code = text.replaceAll("(?s)/\\*.*?\\*/", "").replaceAll("//[^\n]*", "");
        for (String word : RULED_OUT) {
            boolean isName = word.chars().allMatch(Character::isLetter);
            boolean found = isName ? code.matches("(?s).*\\b" + word + "\\b.*") : code.contains(word);
            due.holds("no " + word + " in the source", !found);
        }
        for (String line : code.split("\n")) {
            if (line.startsWith("import")) {
                due.holds(line, line.equals("import java.util.Arrays;"));
            }
            boolean isField = line.contains(" final ") && line.contains(" = new ");
            boolean isConstructors = line.matches(" {12}\\w+\\[i\\] = new \\w+\\(\\);");
            due.holds("nothing is made by a call: " + line, !line.contains("new ") || isField || isConstructors);
            due.holds("signs from 1 to 127: " + line, line.chars().allMatch(sign -> sign > 0 && sign < 128));
        }
    }
}
