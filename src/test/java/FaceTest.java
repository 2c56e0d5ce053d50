import java.lang.reflect.Constructor;
import java.lang.reflect.Executable;
import java.lang.reflect.Field;
import java.lang.reflect.Method;
import java.lang.reflect.Modifier;
import java.util.Arrays;
import java.util.NoSuchElementException;
import java.util.Set;
import java.util.TreeSet;

/** The public face: what the document shows, and nothing beside it. */
public final class FaceTest {
    private static final String[] METHODS = {
        "int feed(int,int,int,int,int)", "int safe(int)", "int fault()", "int where()",
        "int senator(int,int)", "int hook(int,int)", "int act(int,int)", "int good()", "int quorum()",
        "int goodIn(int,int)", "int offIn(int)", "int lasts()", "int going()", "int nextAct()", "int margin(int)",
        "int hang(int)", "int hangAt(int,int)", "int longest()", "int longestAt(int)", "int bestSwap()", "int toSalt()",
        "int keyMan()", "int since()", "int sinceAt(int)", "int look()", "int lookLeaves()", "int judge()",
        "int fallsWith(int)", "int strike(int)", "int keystone()", "int ring()",
        "long power(int,boolean)", "int strongest()",
        "int wire(int,boolean,boolean,boolean)", "int rests(int)", "int rest(int)",
        "long odds(int,boolean)", "long goodOdds(int,int,boolean)", "long mean(int,boolean)",
        "int days(int,int)", "int thunders(int,int)",
        "int day()", "int move(int,int)", "boolean salt(int)", "boolean seed(int)", "boolean undo()", "int image()",
        "boolean back(int)", "int led(int)", "int size(int)", "int trouble()"};

    public static void main(String[] args) throws NoSuchMethodException, IllegalAccessException {
        classItself();
        constructors();
        fields();
        methods();
        thrown();
        inside();
        Due.end();
    }

    private static void classItself() {
        Due.is("public and final", SafeSenate.class.getModifiers(), Modifier.PUBLIC | Modifier.FINAL);
        Due.is("in no package", SafeSenate.class.getPackageName().isEmpty(), true);
        Due.is("of no class but Object", SafeSenate.class.getSuperclass() == Object.class, true);
        Due.is("of no interface", SafeSenate.class.getInterfaces().length, 0);
    }

    private static void constructors() {
        Constructor<?>[] all = SafeSenate.class.getDeclaredConstructors();
        Due.is("constructors", all.length, 1);
        Due.is("is public", all[0].getModifiers(), Modifier.PUBLIC);
        Due.is("takes nothing", all[0].getParameterCount(), 0);
        Due.is("throws nothing", all[0].getExceptionTypes().length, 0);
    }

    private static void fields() throws IllegalAccessException {
        for (Field field : SafeSenate.class.getDeclaredFields()) {
            boolean none = field.getName().equals("NONE");
            int due = none ? Modifier.PUBLIC | Modifier.STATIC | Modifier.FINAL : Modifier.PRIVATE;
            int kept = none ? field.getModifiers() : field.getModifiers() & ~(Modifier.STATIC | Modifier.FINAL);
            Due.is("field " + field.getName(), kept, due);
            Due.is("static is final: " + field.getName(),
                !Modifier.isStatic(field.getModifiers()) || Modifier.isFinal(field.getModifiers()), true);
            if (none) {
                Due.is("NONE is an int", field.getType() == int.class, true);
                Due.is("NONE", field.getInt(null), -1);
            }
        }
    }

    private static String signature(Method method) {
        StringBuilder text = new StringBuilder(method.getReturnType().getName());
        text.append(' ').append(method.getName()).append('(');
        for (Class<?> type : method.getParameterTypes()) {
            text.append(text.charAt(text.length() - 1) == '(' ? "" : ",").append(type.getName());
        }
        return text.append(')').toString();
    }

    private static void methods() {
        Set<String> open = new TreeSet<>();
        for (Method method : SafeSenate.class.getDeclaredMethods()) {
            if (Modifier.isPublic(method.getModifiers())) {
                open.add(signature(method));
                Due.is(method.getName() + " is public alone", method.getModifiers(), Modifier.PUBLIC);
            } else {
                Due.is(method.getName() + " is private", Modifier.isPrivate(method.getModifiers()), true);
            }
        }
        Set<String> due = new TreeSet<>(Arrays.asList(METHODS));
        Due.is("the document's methods are " + open, open.equals(due), true);
        Due.is("how many", open.size(), 51);
    }

    private static void thrown() throws NoSuchMethodException {
        for (Method method : SafeSenate.class.getDeclaredMethods()) {
            boolean led = method.getName().equals("led");
            Due.is(method.getName() + " tells of exceptions", method.getExceptionTypes().length, led ? 1 : 0);
        }
        Class<?> told = SafeSenate.class.getDeclaredMethod("led", int.class).getExceptionTypes()[0];
        Due.is("led's exception", told == NoSuchElementException.class, true);
    }

    private static void inside() {
        Set<String> open = new TreeSet<>();
        for (String method : METHODS) {
            open.add(method.substring(method.indexOf(' ') + 1, method.indexOf('(')));
        }
        closed(SafeSenate.class, open);
        for (Class<?> inner : SafeSenate.class.getDeclaredClasses()) {
            int modifiers = inner.getModifiers();
            Due.is(inner + " is static", Modifier.isStatic(modifiers), true);
            Due.is(inner + " is not open", modifiers & (Modifier.PUBLIC | Modifier.PROTECTED), 0);
            closed(inner, open);
        }
    }

    /** No private method bears a public one's name. */
    private static void closed(Class<?> type, Set<String> open) {
        for (Executable method : type.getDeclaredMethods()) {
            if (Modifier.isPrivate(method.getModifiers())) {
                Due.is(type + " hides " + method.getName(), open.contains(method.getName()), false);
            }
        }
    }
}
