import java.lang.reflect.Constructor;
import java.lang.reflect.Field;
import java.lang.reflect.Method;
import java.lang.reflect.Modifier;
import java.util.Set;
import java.util.TreeSet;

/** The public face is the document's, and nothing beside it can be seen from outside (LANGUAGE.md, rule 1). */
public final class FaceTest {
    /** Each method, and behind it what it says that it throws. */
    private static final String[] FACE = {
        "boolean row(int,int,int) IndexOutOfBoundsException IllegalArgumentException UnsupportedOperationException",
        "boolean lid(int) IndexOutOfBoundsException",
        "boolean clear(int) IndexOutOfBoundsException",
        "int share(int,int) IndexOutOfBoundsException",
        "long put(int,int,long) IndexOutOfBoundsException IllegalStateException NoSuchElementException",
        "int lay(int,int,int)"
            + " IndexOutOfBoundsException IllegalArgumentException IllegalStateException NoSuchElementException UnsupportedOperationException",
        "int lift(int,int) IndexOutOfBoundsException IllegalStateException NoSuchElementException",
        "int move(int,int,int,int,int) IndexOutOfBoundsException",
        "int pour(int,int) IndexOutOfBoundsException",
        "int moved()",
        "long at(int,int) IndexOutOfBoundsException IllegalStateException NoSuchElementException",
        "int holds(int) IndexOutOfBoundsException",
        "int places(int) IndexOutOfBoundsException IllegalStateException",
        "boolean same(int,int) IndexOutOfBoundsException",
        "long all(int) IndexOutOfBoundsException IllegalStateException",
        "int feed(int,int) NoSuchElementException",
        "int kind(int) NoSuchElementException",
        "int count(int)",
    };

    public static void main(String[] args) throws Exception {
        Check.text("the class", Modifier.toString(HiveYard.class.getModifiers()), "public final");
        methods();
        fields();
        Constructor<?>[] constructors = HiveYard.class.getDeclaredConstructors();
        Check.due("how many constructors", () -> constructors.length, 1);
        Check.text("the constructor", constructors[0].toString(), "public HiveYard()");
        Check.end();
    }

    private static void methods() {
        Set<String> seen = new TreeSet<>();
        Set<String> names = new TreeSet<>();
        for (Method method : HiveYard.class.getDeclaredMethods()) {
            if (!Modifier.isPrivate(method.getModifiers())) {
                Check.text(method.getName(), Modifier.toString(method.getModifiers()), "public");
                seen.add(written(method));
                names.add(method.getName());
            }
        }
        Check.text("the methods", seen.toString(), new TreeSet<>(Set.of(FACE)).toString());
        for (Method method : HiveYard.class.getDeclaredMethods()) {
            if (Modifier.isPrivate(method.getModifiers())) {
                Check.due("a private method of a public one's name: " + method.getName(),
                        names.contains(method.getName()), false);
            }
        }
    }

    private static String written(Method method) {
        StringBuilder text = new StringBuilder();
        text.append(method.getReturnType().getName()).append(' ').append(method.getName()).append('(');
        String comma = "";
        for (Class<?> type : method.getParameterTypes()) {
            text.append(comma).append(type.getName());
            comma = ",";
        }
        text.append(')');
        for (Class<?> type : method.getExceptionTypes()) {
            text.append(' ').append(type.getSimpleName());
        }
        return text.toString();
    }

    private static void fields() throws Exception {
        for (Field field : HiveYard.class.getDeclaredFields()) {
            if (!field.getName().equals("NONE")) {
                Check.due("private: " + field.getName(), Modifier.isPrivate(field.getModifiers()), true);
            }
        }
        Field none = HiveYard.class.getDeclaredField("NONE");
        Check.text("NONE", none.toString(), "public static final int HiveYard.NONE");
        Check.due("NONE", () -> HiveYard.NONE, -1);
    }
}
