import java.lang.reflect.Constructor;
import java.lang.reflect.Field;
import java.lang.reflect.Method;
import java.lang.reflect.Modifier;
import java.util.ArrayList;
import java.util.List;
import java.util.Set;
import java.util.TreeSet;

/** The class has the document's face and nothing else that can be seen from outside. */
public final class FourTrackDeckFace {
    private static final String[] FACE = {
        "public static final int NONE",
        "public FourTrackDeck()",
        "public int FourTrackDeck.reel(int,int)",
        "public int FourTrackDeck.strip(int,int)",
        "public int FourTrackDeck.lay(int,int)",
        "public int FourTrackDeck.thread(int)",
        "public int FourTrackDeck.head(int,int)",
        "public int FourTrackDeck.arm(int,int)",
        "public int FourTrackDeck.source(int,int)",
        "public int FourTrackDeck.wind(int)",
        "public int FourTrackDeck.read(int)",
        "public int FourTrackDeck.write(int,int)",
        "public int FourTrackDeck.run(int)",
        "public int FourTrackDeck.dub(int,int,int,int,int,int)",
        "public int FourTrackDeck.turn(int,int)",
        "public int FourTrackDeck.scan(int,int)",
        "public int FourTrackDeck.sheet(int,int)",
        "public int FourTrackDeck.cue(int,int,int)",
        "public int FourTrackDeck.seek(int,int)",
        "public int FourTrackDeck.trip(int)",
        "public int FourTrackDeck.meter(int)",
        "public int FourTrackDeck.count(int)",
        "public int FourTrackDeck.status()"};

    private static int wrong = 0;

    private static void due(boolean holds, String what) {
        if (!holds) {
            wrong++;
            System.out.println("not as due: " + what);
        }
    }

    private static boolean isSeen(int modifiers) {
        return !Modifier.isPrivate(modifiers);
    }

    private static Set<String> seenMembers() {
        Set<String> seen = new TreeSet<>();
        for (Field f : FourTrackDeck.class.getDeclaredFields()) {
            if (isSeen(f.getModifiers())) {
                seen.add(Modifier.toString(f.getModifiers()) + " " + f.getType() + " " + f.getName());
            }
        }
        for (Constructor<?> c : FourTrackDeck.class.getDeclaredConstructors()) {
            if (isSeen(c.getModifiers())) {
                seen.add(c.toString());
            }
        }
        for (Method m : FourTrackDeck.class.getDeclaredMethods()) {
            if (isSeen(m.getModifiers())) {
                seen.add(m.toString());
            }
        }
        return seen;
    }

    private static void privateNamesAreTheirOwn() {
        Set<String> seen = new TreeSet<>();
        for (Method m : FourTrackDeck.class.getMethods()) {
            seen.add(m.getName());
        }
        for (Class<?> c : classes()) {
            for (Method m : c.getDeclaredMethods()) {
                due(isSeen(m.getModifiers()) || !seen.contains(m.getName()), "a private method is named " + m.getName());
            }
        }
    }

    private static void noStaticState() {
        for (Class<?> c : classes()) {
            for (Field f : c.getDeclaredFields()) {
                int modifiers = f.getModifiers();
                due(!Modifier.isStatic(modifiers) || Modifier.isFinal(modifiers), "static state in " + f.getName());
            }
        }
    }

    private static void classesInsideAreHidden() {
        for (Class<?> c : FourTrackDeck.class.getDeclaredClasses()) {
            int modifiers = c.getModifiers();
            due(!Modifier.isPublic(modifiers) && !Modifier.isProtected(modifiers), c.getName() + " is hidden");
            due(Modifier.isStatic(modifiers), c.getName() + " is static");
        }
    }

    private static List<Class<?>> classes() {
        List<Class<?>> all = new ArrayList<>(List.of(FourTrackDeck.class.getDeclaredClasses()));
        all.add(FourTrackDeck.class);
        return all;
    }

    public static void main(String[] args) {
        int modifiers = FourTrackDeck.class.getModifiers();
        due(Modifier.isPublic(modifiers) && Modifier.isFinal(modifiers), "the class is public and final");
        Set<String> seen = seenMembers();
        for (String member : FACE) {
            due(seen.remove(member), "the face has " + member);
        }
        due(seen.isEmpty(), "the face has more: " + seen);
        privateNamesAreTheirOwn();
        noStaticState();
        classesInsideAreHidden();
        System.out.println(wrong == 0 ? "the face is as due" : wrong + " things are not as due");
        if (wrong != 0) {
            System.exit(1);
        }
    }
}
