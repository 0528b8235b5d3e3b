import java.lang.reflect.Constructor;
import java.lang.reflect.Field;
import java.lang.reflect.Method;
import java.lang.reflect.Modifier;
import java.util.Set;
import java.util.TreeSet;

/** The class shows the document's face and no more (LANGUAGE.md, rules 1 and 5). */
public final class FaceTest {
    private static final Due DUE = new Due("The face");
    private static final String[] FACE = {
        "public static final int LeachRows.NONE",
        "public LeachRows(int)",
        "public boolean LeachRows.layer(int,int,int)",
        "public boolean LeachRows.cover(int)",
        "public boolean LeachRows.drain(int)",
        "public boolean LeachRows.back(int)",
        "public boolean LeachRows.tank(long)",
        "public int LeachRows.stage(int,int)",
        "public boolean LeachRows.rain(int,int)",
        "public boolean LeachRows.storm(long,int)",
        "public int LeachRows.run(int)",
        "public long LeachRows.held(int)",
        "public long LeachRows.out(int)",
        "public long LeachRows.balance()",
        "public boolean LeachRows.limit(long,long)",
        "public int LeachRows.passed(int,int)",
        "public int LeachRows.sample(int,int,int)",
        "public int LeachRows.trend(int)",
        "public int LeachRows.odds(int,int)",
    };

    public static void main(String[] args) {
        DUE.yes("public and final", Modifier.isPublic(LeachRows.class.getModifiers())
            && Modifier.isFinal(LeachRows.class.getModifiers()));
        Set<String> shown = shownMembers();
        for (String member : FACE) {
            DUE.yes("there is " + member, shown.remove(member));
        }
        for (String member : shown) {
            DUE.no("there is also " + member, true);
        }
        namesOfTheFaceAreItsOwn();
        staticFieldsAreFinal(LeachRows.class);
        for (Class<?> inside : LeachRows.class.getDeclaredClasses()) {
            DUE.yes(inside + " is static", Modifier.isStatic(inside.getModifiers()));
            DUE.no(inside + " is public", Modifier.isPublic(inside.getModifiers()));
            staticFieldsAreFinal(inside);
        }
        DUE.end();
    }

    private static Set<String> shownMembers() {
        Set<String> shown = new TreeSet<>();
        for (Field field : LeachRows.class.getDeclaredFields()) {
            if (!Modifier.isPrivate(field.getModifiers())) {
                shown.add(field.toString());
            }
        }
        for (Constructor<?> made : LeachRows.class.getDeclaredConstructors()) {
            if (!Modifier.isPrivate(made.getModifiers())) {
                shown.add(made.toString());
            }
        }
        for (Method method : LeachRows.class.getDeclaredMethods()) {
            if (!Modifier.isPrivate(method.getModifiers())) {
                shown.add(method.toString());
            }
        }
        return shown;
    }

    private static void namesOfTheFaceAreItsOwn() {
        Set<String> names = new TreeSet<>();
        for (Method method : LeachRows.class.getDeclaredMethods()) {
            if (Modifier.isPublic(method.getModifiers())) {
                names.add(method.getName());
            }
        }
        for (Method method : LeachRows.class.getDeclaredMethods()) {
            if (!Modifier.isPublic(method.getModifiers())) {
                DUE.no(method + " bears a name of the face", names.contains(method.getName()));
            }
        }
    }

    private static void staticFieldsAreFinal(Class<?> one) {
        for (Field field : one.getDeclaredFields()) {
            if (Modifier.isStatic(field.getModifiers())) {
                DUE.yes(field + " is final", Modifier.isFinal(field.getModifiers()));
            }
        }
    }
}
