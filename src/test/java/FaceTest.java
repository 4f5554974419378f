import java.lang.reflect.Constructor;
import java.lang.reflect.Field;
import java.lang.reflect.Method;
import java.lang.reflect.Modifier;
import java.util.Set;
import java.util.TreeSet;

/** The public face is the document's, and nothing beside it can be seen from outside (LANGUAGE.md, rule 1). */
public final class FaceTest {
    private static final String[] FACE = {
        "boolean row(int,int,int)",
        "boolean lid(int)",
        "boolean clear(int)",
        "int share(int,int)",
        "long put(int,int,long)",
        "int lay(int,int,int)",
        "int lift(int,int)",
        "int move(int,int,int,int,int)",
        "int pour(int,int)",
        "int moved()",
        "long at(int,int)",
        "int holds(int)",
        "int places(int)",
        "boolean same(int,int)",
        "long all(int)",
        "int feed(int,int)",
        "int kind(int)",
        "int count(int)",
    };

    public static void main(String[] args) throws Exception {
        Check.text("the class", Modifier.toString(HiveYard.class.getModifiers()), "public final");
        methods();
        fields();
        Constructor<?>[] constructors = HiveYard.class.getDeclaredConstructors();
        Check.due("how many constructors", () -> constructors.length, 1);
        Check.text("the constructor", constructors[0].toString(), "public HiveYard()");
        Check.end();
    }

    private static void methods() {
        Set<String> seen = new TreeSet<>();
        Set<String> names = new TreeSet<>();
        for (Method method : HiveYard.class.getDeclaredMethods()) {
            if (!Modifier.isPrivate(method.getModifiers())) {
                Check.text(method.getName(), Modifier.toString(method.getModifiers()), "public");
                seen.add(written(method));
                names.add(method.getName());
            }
        }
        Check.text("the methods", seen.toString(), new TreeSet<>(Set.of(FACE)).toString());
        for (Method method : HiveYard.class.getDeclaredMethods()) {
            if (Modifier.isPrivate(method.getModifiers())) {
                Check.due("a private method of a public one's name: " + method.getName(),
                        names.contains(method.getName()), false);
            }
        }
    }

    private static String written(Method method) {
        StringBuilder text = new StringBuilder();
        text.append(method.getReturnType().getName()).append(' ').append(method.getName()).append('(');
        String comma = "";
        for (Class<?> type : method.getParameterTypes()) {
            text.append(comma).append(type.getName());
            comma = ",";
        }
        return text.append(')').toString();
    }

    private static void fields() throws Exception {
        for (Field field : HiveYard.class.getDeclaredFields()) {
            if (!field.getName().equals("NONE")) {
                Check.due("private: " + field.getName(), Modifier.isPrivate(field.getModifiers()), true);
            }
        }
        Field none = HiveYard.class.getDeclaredField("NONE");
        Check.text("NONE", none.toString(), "public static final int HiveYard.NONE");
        Check.due("NONE", () -> HiveYard.NONE, -1);
    }
}
