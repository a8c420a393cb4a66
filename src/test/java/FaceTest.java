import java.lang.reflect.Constructor;
import java.lang.reflect.Field;
import java.lang.reflect.Method;
import java.lang.reflect.Modifier;
import java.util.Set;
import java.util.TreeSet;

/** The public face, and nothing beside it that is not private (LANGUAGE.md, rule 1). */
public final class FaceTest {
    private static final Set<String> METHODS = Set.of(
        "public boolean TapeCounter.weigh(int,int)",
        "public int TapeCounter.weight(int)",
        "public int TapeCounter.feed(int,int)",
        "public int TapeCounter.left()",
        "public boolean TapeCounter.isOne(int,int,int)",
        "public int TapeCounter.draw(int,int,int)",
        "public int TapeCounter.spent()",
        "public int TapeCounter.count(int,int,int,int,int)",
        "public int TapeCounter.fails(int,int,int,int)",
        "public int TapeCounter.work(int,int,int,int)",
        "public int TapeCounter.first(int,int,int,int)");

    public static void main(String[] args) {
        Check check = new Check();
        Class<?> face = TapeCounter.class;
        check.due("NONE", TapeCounter.NONE, -1);
        check.due("the class is public and final", face.getModifiers(), Modifier.PUBLIC | Modifier.FINAL);
        methods(check, face);
        fields(check, face);
        Constructor<?>[] made = face.getDeclaredConstructors();
        check.due("constructors", made.length, 1);
        check.due("the constructor is public", made[0].toString().equals("public TapeCounter()"), true);
        check.end();
    }

    private static void methods(Check check, Class<?> face) {
        Set<String> open = new TreeSet<>();
        Set<String> openNames = new TreeSet<>();
        for (Method method : face.getDeclaredMethods()) {
            if (!Modifier.isPrivate(method.getModifiers())) {
                open.add(method.toString());
                openNames.add(method.getName());
            }
        }
        check.due("the open methods are the face's: " + open, open.equals(METHODS), true);
        for (Method method : face.getDeclaredMethods()) {
            boolean doubled = Modifier.isPrivate(method.getModifiers()) && openNames.contains(method.getName());
            check.due("a private method has an open one's name: " + method, doubled, false);
        }
    }

    private static void fields(Check check, Class<?> face) {
        for (Field field : face.getDeclaredFields()) {
            boolean open = !Modifier.isPrivate(field.getModifiers());
            check.due("is open: " + field, open, field.getName().equals("NONE"));
        }
    }
}
