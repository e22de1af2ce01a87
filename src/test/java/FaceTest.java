import java.lang.reflect.Constructor;
import java.lang.reflect.Field;
import java.lang.reflect.Member;
import java.lang.reflect.Method;
import java.lang.reflect.Modifier;
import java.util.Arrays;
import java.util.Set;
import java.util.TreeSet;

/** The document's face: these members, and no other one that is not private. */
public final class FaceTest {
    private static final String[] FACE = {
        "public static final int LitreFractions.NONE",
        "public LitreFractions()",
        "public int LitreFractions.value(long,long,int) throws java.lang.ArithmeticException",
        "public int LitreFractions.add(int,int)",
        "public int LitreFractions.times(int,int)",
        "public int LitreFractions.over(int,int) throws java.lang.ArithmeticException",
        "public int LitreFractions.round(int,int,long)",
        "public int LitreFractions.order(int,int)",
        "public boolean LitreFractions.row(int,long,long,long)",
        "public int LitreFractions.join(int,int)",
        "public boolean LitreFractions.weight(long)",
        "public int LitreFractions.share(int,int)",
        "public int LitreFractions.digit(int,int,int) throws java.lang.IndexOutOfBoundsException",
        "public long LitreFractions.told(int,int)",
        "public void LitreFractions.clear()",
    };

    public static void main(String[] args) {
        Set<String> seen = new TreeSet<>();
        Set<String> publicNames = new TreeSet<>();
        for (Field f : LitreFractions.class.getDeclaredFields()) {
            note(seen, f, f.toString());
        }
        for (Constructor<?> c : LitreFractions.class.getDeclaredConstructors()) {
            note(seen, c, c.toString());
        }
        for (Method m : LitreFractions.class.getDeclaredMethods()) {
            note(seen, m, m.toString());
            if (Modifier.isPublic(m.getModifiers())) {
                publicNames.add(m.getName());
            }
        }
        Due.same("the face", seen.toString(), new TreeSet<>(Arrays.asList(FACE)).toString());
        Due.is("the class's modifiers", LitreFractions.class.getModifiers(), Modifier.PUBLIC | Modifier.FINAL);
        Due.is("NONE", LitreFractions.NONE, -1);
        privateNames(LitreFractions.class, publicNames);
        for (Class<?> inside : LitreFractions.class.getDeclaredClasses()) {
            Due.is(inside + " is static", Modifier.isStatic(inside.getModifiers()), true);
            privateNames(inside, publicNames);
        }
        Due.end();
    }

    private static void note(Set<String> seen, Member member, String text) {
        if (!Modifier.isPrivate(member.getModifiers()) && !member.isSynthetic()) {
            seen.add(text);
        }
    }

    private static void privateNames(Class<?> of, Set<String> publicNames) {
        for (Method m : of.getDeclaredMethods()) {
            if (Modifier.isPrivate(m.getModifiers())) {
                Due.is(m + " bears a public name", publicNames.contains(m.getName()), false);
            }
        }
    }
}
