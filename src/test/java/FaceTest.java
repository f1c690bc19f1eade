import java.lang.reflect.Constructor;
import java.lang.reflect.Field;
import java.lang.reflect.Method;
import java.lang.reflect.Modifier;
import java.util.Arrays;
import java.util.Set;
import java.util.TreeSet;

/** The public face is the document's, and nothing else can be seen from outside. */
public final class FaceTest {
    private static final String[] FACE = {
        "int see(int,int,int,int)", "int ofPupil(int,int)", "int hard(int)", "int ask(int,int)",
        "int teach(int,int)", "int doubt(int)", "int build(int)", "int would(int,int,boolean)",
        "int stand(int)", "int bishop()", "int plan(int,int,int,int,int)", "int best(int)",
        "int choose(int,int)", "int reading(int,int,int)", "int back(int)", "int wits(int)",
        "int kinds(int)", "int hards(int)", "long odds(int,int)", "int sheet(int,int,int)",
        "int lose(int)", "int put(int,int,int)", "long cell(int,int,int)",
        "int copy(int,int,int,int,int)", "int tell(int)", "int cap(int)", "int as(int,int)",
        "int trace()", "int fault()", "int many(int)",
    };

    public static void main(String[] args) throws Exception {
        Due due = new Due("FaceTest");
        due.holds("the class is public and final",
            (DunceSee.class.getModifiers() & (Modifier.PUBLIC | Modifier.FINAL))
                == (Modifier.PUBLIC | Modifier.FINAL));
        constants(due);
        methods(due);
        nested(due);
        Constructor<?>[] made = DunceSee.class.getDeclaredConstructors();
        due.is("how many constructors", made.length, 1);
        due.holds("the constructor is public and takes nothing",
            Modifier.isPublic(made[0].getModifiers()) && made[0].getParameterCount() == 0);
        due.end();
    }

    private static void constants(Due due) throws Exception {
        String[] names = {"UNKNOWN", "OUTSIDE", "STATE", "FULL", "NONE"};
        int[] values = {-1, -2, -3, -4, -9};
        for (int i = 0; i < names.length; i++) {
            Field field = DunceSee.class.getField(names[i]);
            due.holds(names[i] + " is an int", field.getType() == int.class);
            due.is(names[i], field.getInt(null), values[i]);
        }
        due.holds("LOST is a long", DunceSee.class.getField("LOST").getType() == long.class);
        due.is("LOST", DunceSee.LOST, Long.MIN_VALUE);
        due.is("how many public fields", DunceSee.class.getFields().length, 6);
        for (Field field : DunceSee.class.getDeclaredFields()) {
            int seen = field.getModifiers() & (Modifier.PUBLIC | Modifier.PRIVATE);
            due.holds("field " + field.getName() + " is public or private", seen != 0);
        }
    }

    private static void methods(Due due) {
        Set<String> want = new TreeSet<>(Arrays.asList(FACE));
        Set<String> got = new TreeSet<>();
        Set<String> names = new TreeSet<>();
        for (Method method : DunceSee.class.getDeclaredMethods()) {
            if (Modifier.isPublic(method.getModifiers())) {
                got.add(signature(method));
                names.add(method.getName());
            } else {
                due.holds(method + " is private", Modifier.isPrivate(method.getModifiers()));
            }
        }
        due.holds("public methods " + got + " are " + want, got.equals(want));
        for (Method method : DunceSee.class.getDeclaredMethods()) {
            due.holds(method + " does not bear a public one's name",
                Modifier.isPublic(method.getModifiers()) || !names.contains(method.getName()));
        }
        for (Class<?> inside : DunceSee.class.getDeclaredClasses()) {
            for (Method method : inside.getDeclaredMethods()) {
                due.holds(method + " does not bear a public one's name",
                    !names.contains(method.getName()));
                due.holds(method + " has at most seven parameters",
                    method.getParameterCount() <= 7);
            }
        }
    }

    private static void nested(Due due) {
        Class<?>[] inside = DunceSee.class.getDeclaredClasses();
        due.holds("at most twelve classes", inside.length < 12);
        fieldsOf(due, DunceSee.class);
        for (Class<?> one : inside) {
            due.holds(one + " is static and not public", Modifier.isStatic(one.getModifiers())
                && (one.getModifiers() & (Modifier.PUBLIC | Modifier.PROTECTED)) == 0);
            fieldsOf(due, one);
        }
    }

    private static void fieldsOf(Due due, Class<?> one) {
        int fields = 0;
        for (Field field : one.getDeclaredFields()) {
            if (Modifier.isStatic(field.getModifiers())) {
                due.holds(field + " is a constant", Modifier.isFinal(field.getModifiers()));
            } else {
                fields++;
            }
        }
        due.holds(one + " has at most twenty fields", fields <= 20);
    }

    private static String signature(Method method) {
        StringBuilder text = new StringBuilder();
        text.append(method.getReturnType().getName()).append(' ').append(method.getName()).append('(');
        for (Class<?> type : method.getParameterTypes()) {
            text.append(text.charAt(text.length() - 1) == '(' ? "" : ",").append(type.getName());
        }
        return text.append(')').toString();
    }
}
