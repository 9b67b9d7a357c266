import java.lang.reflect.Constructor;
import java.lang.reflect.Field;
import java.lang.reflect.Method;
import java.lang.reflect.Modifier;
import java.util.Arrays;
import java.util.TreeSet;

/** The public face is the document's, and what is no part of it is private (LANGUAGE.md, rule 1). */
public final class FaceTest {
    private static final String[] FACE = {
        "public TasterPanels(long)",
        "public boolean TasterPanels.answer(int,int,int)",
        "public boolean TasterPanels.level(int,int,boolean)",
        "public boolean TasterPanels.out(int)",
        "public boolean TasterPanels.rank(int,int,int,int)",
        "public double TasterPanels.threshold(int)",
        "public int TasterPanels.order(int,int,int)",
        "public int TasterPanels.right(int)",
        "public int TasterPanels.row(int) throws java.lang.IndexOutOfBoundsException",
        "public int TasterPanels.size(int,long,long)",
        "public int TasterPanels.taster()",
        "public int TasterPanels.test(int,int)",
        "public long TasterPanels.chance(int,int)",
        "public long TasterPanels.permuted(int,int)",
        "public static final int TasterPanels.FULL",
        "public static final int TasterPanels.NONE",
    };

    public static void main(String[] args) {
        Due due = new Due();
        due.sentence("The public face", "the document's, and nothing more");
        due.same("the class", Modifier.toString(TasterPanels.class.getModifiers()), "public final");
        TreeSet<String> open = new TreeSet<>();
        TreeSet<String> names = new TreeSet<>();
        for (Constructor<?> made : TasterPanels.class.getDeclaredConstructors()) {
            open.add(made.toString());
        }
        for (Field field : TasterPanels.class.getDeclaredFields()) {
            if (!Modifier.isPrivate(field.getModifiers())) {
                open.add(field.toString());
            }
        }
        for (Method method : TasterPanels.class.getDeclaredMethods()) {
            if (!Modifier.isPrivate(method.getModifiers())) {
                open.add(method.toString());
                names.add(method.getName());
            }
        }
        due.same("the face", open.toString(), new TreeSet<>(Arrays.asList(FACE)).toString());
        for (Method method : TasterPanels.class.getDeclaredMethods()) {
            if (Modifier.isPrivate(method.getModifiers())) {
                due.same("a public one is called " + method.getName(), names.contains(method.getName()), false);
            }
        }
        due.end();
    }
}
