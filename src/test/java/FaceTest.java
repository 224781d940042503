import java.lang.reflect.Constructor;
import java.lang.reflect.Field;
import java.lang.reflect.Method;
import java.lang.reflect.Modifier;
import java.util.Set;
import java.util.TreeSet;

/** The public face is the document's, and nothing but classes is seen beside it. */
public final class FaceTest {
    private static final String[] FACE = {
        "boolean hours(int)", "int kind(int)", "int offer(int,int,int)", "boolean reprice(int,int)",
        "boolean need(int,int,int,int)", "boolean needs(int,int,int,int)", "boolean buy(int,int,int)",
        "boolean clear(int)", "int tell(int,int,int)", "long cost(int)", "long best(int)",
        "int price(int,int)", "int more(int,int,int)", "long blind(int)", "long pays(int,int)",
        "int about(int,int)", "int count(int)", "boolean image(int)", "boolean again(int)",
    };

    public static void main(String[] args) {
        Due due = new Due("FaceTest");
        due.is("modifiers of the class", BoughtAhead.class.getModifiers(), Modifier.PUBLIC | Modifier.FINAL);
        due.is("NONE", BoughtAhead.NONE, -1);
        methods(due);
        fields(due);
        constructors(due);
        nested(due);
        due.end();
    }

    private static void methods(Due due) {
        Set<String> want = new TreeSet<>(Set.of(FACE));
        Set<String> publicNames = new TreeSet<>();
        for (Method m : BoughtAhead.class.getDeclaredMethods()) {
            String text = written(m);
            if (Modifier.isPublic(m.getModifiers())) {
                due.yes(text + " is of the face", want.remove(text));
                due.is(text + " modifiers", m.getModifiers(), Modifier.PUBLIC);
                publicNames.add(m.getName());
            } else {
                due.yes(text + " is private", Modifier.isPrivate(m.getModifiers()));
            }
        }
        due.yes("missing methods: " + want, want.isEmpty());
        for (Method m : BoughtAhead.class.getDeclaredMethods()) {
            if (Modifier.isPrivate(m.getModifiers())) {
                due.no(m.getName() + " bears a public name", publicNames.contains(m.getName()));
            }
        }
    }

    private static String written(Method m) {
        StringBuilder text = new StringBuilder(m.getReturnType() + " " + m.getName() + "(");
        for (int i = 0; i < m.getParameterCount(); i++) {
            text.append(i == 0 ? "" : ",").append(m.getParameterTypes()[i]);
        }
        return text.append(")").toString();
    }

    private static void fields(Due due) {
        for (Field f : BoughtAhead.class.getDeclaredFields()) {
            int m = f.getModifiers();
            if (f.getName().equals("NONE")) {
                due.is("NONE's modifiers", m, Modifier.PUBLIC | Modifier.STATIC | Modifier.FINAL);
            } else {
                due.yes(f.getName() + " is private", Modifier.isPrivate(m));
                due.yes(f.getName() + " is no static state", !Modifier.isStatic(m) || Modifier.isFinal(m));
            }
        }
    }

    private static void constructors(Due due) {
        Constructor<?>[] all = BoughtAhead.class.getDeclaredConstructors();
        due.is("constructors", all.length, 1);
        due.is("its modifiers", all[0].getModifiers(), Modifier.PUBLIC);
        due.is("its parameters", all[0].getParameterCount(), 0);
    }

    private static void nested(Due due) {
        Class<?>[] all = BoughtAhead.class.getDeclaredClasses();
        due.yes("at most twelve classes", all.length <= 12);
        for (Class<?> c : all) {
            int m = c.getModifiers();
            due.yes(c + " is static", Modifier.isStatic(m));
            due.no(c + " is seen outside", Modifier.isPublic(m) || Modifier.isProtected(m));
            due.yes(c + " has few fields", c.getDeclaredFields().length <= 20);
        }
    }
}
