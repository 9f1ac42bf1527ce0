import java.lang.reflect.Constructor;
import java.lang.reflect.Field;
import java.lang.reflect.Method;
import java.lang.reflect.Modifier;
import java.util.ArrayList;
import java.util.Collections;
import java.util.List;

/** The public face is that of the document, and nothing more; LANGUAGE.md, rules 1 and 5. */
public final class FaceTest {
    private static final String OUT = "IndexOutOfBoundsException";
    private static final String ARG = "IllegalArgumentException";
    private static final String STATE = "IllegalStateException";

    private static final String[] METHODS = {
        "int setPrice(int,int) " + OUT + " " + ARG,
        "int buy(int) " + OUT + " " + STATE,
        "int admit(int,boolean) " + OUT + " " + STATE,
        "int giveBack(int) " + OUT + " " + STATE,
        "int join(int) " + OUT + " " + STATE,
        "int setCap(int,int) " + OUT + " " + ARG,
        "int close(int,boolean) " + OUT,
        "boolean enter(int,int) " + OUT + " " + STATE,
        "int goOut(int) " + OUT + " " + STATE,
        "int addWork(int) " + OUT + " " + STATE,
        "int hang(int,int) " + OUT + " " + STATE,
        "int lend(int,int,int) " + OUT + " " + ARG + " " + STATE,
        "int bringHome(int,int) " + OUT + " " + STATE,
        "int setShare(int,int) " + OUT + " " + ARG,
        "int sell(int,int,int) " + OUT + " " + ARG,
        "int give(int,int,int) " + OUT + " " + ARG,
        "int advance(int) " + ARG + " " + STATE,
        "int day()",
        "int tickets()",
        "int whereIs(int) " + OUT,
        "int seen(int) " + OUT,
        "int inside(int) " + OUT,
        "int queued(int,int) " + OUT,
        "int views(int) " + OUT,
        "int titleAt(int,int) " + OUT,
        "int money(int) " + OUT,
        "int moneyBySeen(int) " + OUT,
        "int held()",
        "int takings()",
    };

    public static void main(String[] args) throws IllegalAccessException {
        methods();
        constants();
        constructors();
        classesInside();
        Check.end();
    }

    private static void methods() {
        List<String> due = new ArrayList<>(List.of(METHODS));
        List<String> got = new ArrayList<>();
        List<String> names = new ArrayList<>();
        for (Method method : MuseumTill.class.getDeclaredMethods()) {
            if (!Modifier.isPrivate(method.getModifiers())) {
                got.add(text(method));
                names.add(method.getName());
            }
        }
        Collections.sort(due);
        Collections.sort(got);
        Check.due("the face", got.toString(), due.toString());
        List<Class<?>> all = new ArrayList<>(List.of(MuseumTill.class.getDeclaredClasses()));
        all.add(MuseumTill.class);
        for (Class<?> type : all) {
            for (Method method : type.getDeclaredMethods()) {
                boolean isHidden = type != MuseumTill.class || Modifier.isPrivate(method.getModifiers());
                Check.due("a hidden " + method.getName(), isHidden && names.contains(method.getName()), false);
            }
        }
    }

    private static String text(Method method) {
        StringBuilder text = new StringBuilder();
        text.append(method.getReturnType().getSimpleName()).append(' ').append(method.getName()).append('(');
        for (int i = 0; i < method.getParameterCount(); i++) {
            text.append(i == 0 ? "" : ",").append(method.getParameterTypes()[i].getSimpleName());
        }
        text.append(')');
        for (Class<?> kind : method.getExceptionTypes()) {
            text.append(' ').append(kind.getSimpleName());
        }
        Check.due(method.getName() + " is public and of the object", method.getModifiers(), Modifier.PUBLIC);
        return text.toString();
    }

    private static void constants() throws IllegalAccessException {
        List<String> got = new ArrayList<>();
        for (Field field : MuseumTill.class.getDeclaredFields()) {
            int modifiers = field.getModifiers();
            if (!Modifier.isPrivate(modifiers)) {
                Check.due(field.getName() + " is public static final", modifiers,
                        Modifier.PUBLIC | Modifier.STATIC | Modifier.FINAL);
                got.add(field.getType() + " " + field.getName() + " " + field.getInt(null));
            } else if (Modifier.isStatic(modifiers)) {
                Check.due(field.getName() + " is final", Modifier.isFinal(modifiers), true);
            }
        }
        Collections.sort(got);
        Check.due("the constants", got.toString(), "[int DAY 1, int GUEST 3, int MEMBER 2, int NONE -1, int SINGLE 0]");
    }

    private static void constructors() {
        Constructor<?>[] all = MuseumTill.class.getDeclaredConstructors();
        Check.due("constructors", all.length, 1);
        Check.due("the constructor is public", all[0].getModifiers(), Modifier.PUBLIC);
        Check.due("the constructor's parameters", all[0].getParameterCount(), 0);
        Check.due("the class is public and final", MuseumTill.class.getModifiers(), Modifier.PUBLIC | Modifier.FINAL);
        Check.due("the class has no package", MuseumTill.class.getPackageName(), "");
    }

    private static void classesInside() {
        for (Class<?> type : MuseumTill.class.getDeclaredClasses()) {
            int modifiers = type.getModifiers();
            Check.due(type.getName() + " is static", Modifier.isStatic(modifiers), true);
            Check.due(type.getName() + " is shown", Modifier.isPublic(modifiers) || Modifier.isProtected(modifiers), false);
        }
    }
}
