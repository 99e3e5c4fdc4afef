import java.lang.reflect.Constructor;
import java.lang.reflect.Field;
import java.lang.reflect.Method;
import java.lang.reflect.Modifier;
import java.util.ArrayList;
import java.util.Arrays;
import java.util.List;
import java.util.TreeSet;

/** The public face is the document's, and nothing else can be seen from outside. */
final class FaceTest {
    private static final String[] FACE = {
        "int node(int,int)", "int set(int,int,int)", "boolean force(int,int)", "boolean see(int,int)",
        "int weight(int)", "int chance(int)", "int odds(int)", "int likely()", "int moves(int,int)",
        "int most(int)", "int worth(int,int)", "int cost(int,int)", "int need(int)",
        "int apart(int,int,int)", "int even(int,int,int)", "int joined(int)", "int bounds(int)",
        "int sign(int)", "boolean end(int)", "int say()", "int so(int)", "int term(int,int)",
        "int slip(int,int)", "int which(int)", "int span(int,int,int,int)", "int reach(int,int)",
        "int leans(int)", "int head(int,int)", "int hear(int,int)", "int errs(int,int)",
        "int order(int,int)", "int list(int,int,int,int)", "int many(int,int)", "int test(int,int,int)",
        "int land(int,int,int,int,int)", "int mark(int,int)", "int rare(int,int)",
        "int day(boolean,boolean,boolean)", "int shifts(int)", "int enough(int)", "boolean keep(int)",
        "boolean again(int)", "int count(int)",
        "int of(int,int) throws java.util.NoSuchElementException",
        "long row(int) throws java.util.NoSuchElementException"
    };

    private FaceTest() {
    }

    private static String joinNames(Class<?>[] types) {
        List<String> names = new ArrayList<>();
        for (Class<?> type : types) {
            names.add(type.getName());
        }
        return String.join(",", names);
    }

    private static String shape(Method method) {
        String thrown = joinNames(method.getExceptionTypes());
        return method.getReturnType().getName() + " " + method.getName() + "("
            + joinNames(method.getParameterTypes()) + ")" + (thrown.isEmpty() ? "" : " throws " + thrown);
    }

    public static void main(String[] args) throws ReflectiveOperationException {
        Class<?> face = OddsInCourt.class;
        Due.is("public and final", true,
            Modifier.isPublic(face.getModifiers()) && Modifier.isFinal(face.getModifiers()));
        TreeSet<String> seen = new TreeSet<>();
        TreeSet<String> names = new TreeSet<>();
        for (Method method : face.getDeclaredMethods()) {
            boolean open = Modifier.isPublic(method.getModifiers());
            Due.is(method + " is public or private", true, open || Modifier.isPrivate(method.getModifiers()));
            if (open) {
                seen.add(shape(method));
                names.add(method.getName());
                Due.is(method + " is no static one", false, Modifier.isStatic(method.getModifiers()));
            }
        }
        TreeSet<String> due = new TreeSet<>(Arrays.asList(FACE));
        if (!due.equals(seen)) {
            System.out.println("due  " + due);
            System.out.println("seen " + seen);
        }
        Due.is("the methods", true, due.equals(seen));
        hidden(face, names);
        for (Class<?> inside : face.getDeclaredClasses()) {
            hidden(inside, names);
            Due.is(inside + " is static", true, Modifier.isStatic(inside.getModifiers()));
            Due.is(inside + " is not public", false, Modifier.isPublic(inside.getModifiers()));
        }
        Constructor<?>[] made = face.getDeclaredConstructors();
        Due.is("constructors", 1, made.length);
        Due.is("it is public", true, Modifier.isPublic(made[0].getModifiers()));
        Due.is("it asks for nothing", 0, made[0].getParameterCount());
        Due.is("NONE", -1, OddsInCourt.NONE);
        fields(face);
        Due.end("FaceTest");
    }

    /** No private method, here or inside, bears the name of a public one. */
    private static void hidden(Class<?> one, TreeSet<String> names) {
        for (Method method : one.getDeclaredMethods()) {
            boolean open = Modifier.isPublic(method.getModifiers());
            Due.is(method + " bears a name of the face", false, !open && names.contains(method.getName()));
        }
    }

    private static void fields(Class<?> face) {
        int open = 0;
        for (Field field : face.getDeclaredFields()) {
            if (Modifier.isPrivate(field.getModifiers())) {
                continue;
            }
            open++;
            Due.is("field " + field.getName() + " is the document's", true, field.getName().equals("NONE"));
            Due.is("NONE is public static final", Modifier.PUBLIC | Modifier.STATIC | Modifier.FINAL,
                field.getModifiers());
        }
        Due.is("fields seen from outside", 1, open);
    }
}
