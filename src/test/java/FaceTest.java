import java.lang.reflect.Constructor;
import java.lang.reflect.Field;
import java.lang.reflect.Method;
import java.lang.reflect.Modifier;
import java.util.Set;
import java.util.TreeSet;

/** The public face as the document tells it, and nothing else to be seen (LANGUAGE.md, rules 1, 2, 5, 11). */
public final class FaceTest {
    private static final String[] CALLS = {
        "feed long int", "town", "warm int int", "warmth int", "gap int", "balloon int int int", "balloonOf int int",
        "becomes int int int", "mind int int int", "pour int int", "give int int int int", "touches int",
        "above int int", "hours int", "clock int", "height int int", "first int", "clear int int",
        "leastSand int int", "ropeFor int int", "columnFor int int", "lasts int", "reached int", "help int", "cold",
        "highest int", "seed int", "draw int", "prove int int", "row int int", "alterRow int int int", "judge int",
        "warms int int int int", "sheet int int int", "put int int int", "item int int int", "shelf int int int",
        "taken int int", "act int int int", "trace int", "many int", "keep", "again",
    };
    private static int wrong = 0;

    public static void main(String[] args) {
        Set<String> due = new TreeSet<>(Set.of(CALLS));
        Set<String> names = new TreeSet<>();
        for (String call : CALLS) {
            names.add(call.split(" ")[0]);
        }
        Class<?> face = BalloonTown.class;
        Set<String> seen = new TreeSet<>();
        for (Method m : face.getDeclaredMethods()) {
            if (Modifier.isPrivate(m.getModifiers())) {
                is("a private method with a public one's name: " + m, !names.contains(m.getName()));
                continue;
            }
            is("public, an int, of the object: " + m,
                Modifier.isPublic(m.getModifiers()) && !Modifier.isStatic(m.getModifiers()) && m.getReturnType() == int.class);
            seen.add(told(m));
        }
        is("the calls are " + due + ", seen are " + seen, due.equals(seen));
        is("public and final", Modifier.isPublic(face.getModifiers()) && Modifier.isFinal(face.getModifiers()));
        constructors(face);
        fields(face);
        for (Class<?> inside : face.getDeclaredClasses()) {
            is("private and static: " + inside, Modifier.isStatic(inside.getModifiers()) && Modifier.isPrivate(inside.getModifiers()));
            for (Method m : inside.getDeclaredMethods()) {
                is("a face's name inside: " + m, !names.contains(m.getName()));
            }
            fields(inside);
        }
        System.out.println(wrong == 0 ? "the face is as due" : wrong + " things are not as due");
        if (wrong != 0) {
            System.exit(1);
        }
    }

    private static void constructors(Class<?> face) {
        Constructor<?>[] all = face.getDeclaredConstructors();
        is("one public constructor without numbers",
            all.length == 1 && Modifier.isPublic(all[0].getModifiers()) && all[0].getParameterCount() == 0);
    }

    private static void fields(Class<?> of) {
        Set<String> constants = Set.of("BAD", "FULL", "NONE", "STATE");
        int own = 0;
        for (Field f : of.getDeclaredFields()) {
            if (Modifier.isStatic(f.getModifiers())) {
                is("a static field is final: " + f, Modifier.isFinal(f.getModifiers()));
                is("seen alone if the document names it: " + f,
                    Modifier.isPublic(f.getModifiers()) == constants.contains(f.getName()));
            } else {
                own++;
                is("hidden: " + f, of != BalloonTown.class || Modifier.isPrivate(f.getModifiers()));
            }
        }
        is("some twenty fields at most: " + of, own <= 20);
    }

    private static String told(Method m) {
        StringBuilder text = new StringBuilder(m.getName());
        for (Class<?> type : m.getParameterTypes()) {
            text.append(' ').append(type.getName());
        }
        return text.toString();
    }

    private static void is(String what, boolean right) {
        if (!right) {
            wrong++;
            System.out.println("not so: " + what);
        }
    }
}
