import java.lang.reflect.Constructor;
import java.lang.reflect.Field;
import java.lang.reflect.Method;
import java.lang.reflect.Modifier;
import java.util.Set;
import java.util.TreeSet;

/** The class shows exactly the document's face, and nothing else that is not private. */
public final class WideFractionsFace {
    private static final String INDEX = " throws java.lang.IndexOutOfBoundsException";
    private static final String INDEX_ARGUMENT = INDEX + ",java.lang.IllegalArgumentException";
    private static final Set<String> DUE = Set.of(
            "public static final int WideFractions.NONE",
            "public WideFractions()",
            "public void WideFractions.set(int,long,long)" + INDEX,
            "public long WideFractions.half(int,boolean)" + INDEX,
            "public boolean WideFractions.add(int,int,int)" + INDEX,
            "public boolean WideFractions.subtract(int,int,int)" + INDEX,
            "public void WideFractions.multiply(int,int,int,int)" + INDEX_ARGUMENT,
            "public void WideFractions.divide(int,int,int,int)" + INDEX_ARGUMENT + ",java.lang.ArithmeticException",
            "public void WideFractions.root(int,int,int)" + INDEX_ARGUMENT,
            "public boolean WideFractions.shift(int,int,int)" + INDEX,
            "public void WideFractions.jam(int,int,int)" + INDEX_ARGUMENT,
            "public int WideFractions.zeros(int)" + INDEX,
            "public int WideFractions.compare(int,int)" + INDEX,
            "public int WideFractions.digits(int)" + INDEX,
            "public int WideFractions.digit(int)",
            "public boolean WideFractions.next(int,int)" + INDEX_ARGUMENT);

    public static void main(String[] args) {
        Set<String> got = new TreeSet<>();
        Set<String> publicNames = new TreeSet<>();
        Set<String> privateNames = new TreeSet<>();
        for (Field field : WideFractions.class.getDeclaredFields()) {
            if (!Modifier.isPrivate(field.getModifiers())) {
                got.add(field.toString());
            }
        }
        for (Constructor<?> constructor : WideFractions.class.getDeclaredConstructors()) {
            got.add(constructor.toString());
        }
        for (Method method : WideFractions.class.getDeclaredMethods()) {
            if (Modifier.isPrivate(method.getModifiers())) {
                privateNames.add(method.getName());
            } else {
                got.add(method.toString());
                publicNames.add(method.getName());
            }
        }
        privateNames.retainAll(publicNames);
        int modifiers = WideFractions.class.getModifiers();
        boolean right = got.equals(DUE) && privateNames.isEmpty() && WideFractions.NONE == -1
                && modifiers == (Modifier.PUBLIC | Modifier.FINAL);
        if (!right) {
            System.out.println("the face is " + got + "\ndue is " + new TreeSet<>(DUE)
                    + "\nprivate methods with a public one's name: " + privateNames);
            System.exit(1);
        }
        System.out.println("the face is as due");
    }
}
