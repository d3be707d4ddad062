import java.lang.reflect.Constructor;
import java.lang.reflect.Field;
import java.lang.reflect.Method;
import java.lang.reflect.Modifier;
import java.util.Set;
import java.util.TreeSet;

/** The class shows the document's face and nothing else, and keeps no static state. */
public final class FaceTest {
    private static final String ARGUMENT = "java.lang.IllegalArgumentException";
    private static final String INDEX = "java.lang.IndexOutOfBoundsException";
    private static final String UNSUPPORTED = "java.lang.UnsupportedOperationException";
    private static final Set<String> FACE = Set.of(
        "public void FoldRow.set(int,int,long) throws " + ARGUMENT + "," + INDEX,
        "public void FoldRow.fill(int,int,int,long) throws " + ARGUMENT + "," + INDEX,
        "public void FoldRow.swap(int,int) throws " + INDEX,
        "public long FoldRow.fold(int,int,long) throws " + ARGUMENT + "," + INDEX,
        "public long FoldRow.again(int,int,long,int) throws " + ARGUMENT + "," + INDEX,
        "public long FoldRow.least(int,int) throws " + INDEX + "," + UNSUPPORTED,
        "public long FoldRow.greatest(int,int) throws " + INDEX + "," + UNSUPPORTED,
        "public long FoldRow.fixed(int,int,boolean) throws " + INDEX + "," + UNSUPPORTED,
        "public int FoldRow.about(int,int,int) throws " + ARGUMENT + "," + INDEX);

    public static void main(String[] args) {
        Check check = new Check();
        Set<String> shown = new TreeSet<>();
        for (Method method : FoldRow.class.getDeclaredMethods()) {
            if (!Modifier.isPrivate(method.getModifiers())) {
                shown.add(method.toString());
            }
        }
        check.same("methods", new TreeSet<>(FACE).toString(), shown.toString());
        Constructor<?>[] makers = FoldRow.class.getDeclaredConstructors();
        check.answers("constructors", 1, () -> makers.length);
        check.same("constructor", "public FoldRow()", makers[0].toString());
        check.same("class", "public final", Modifier.toString(FoldRow.class.getModifiers()));
        for (Field field : FoldRow.class.getDeclaredFields()) {
            int modifiers = field.getModifiers();
            check.same(field.getName() + " is private and final", "true",
                Boolean.toString(Modifier.isPrivate(modifiers) && Modifier.isFinal(modifiers)));
        }
        check.end();
    }
}
