import java.lang.reflect.Field;
import java.lang.reflect.Method;
import java.lang.reflect.Modifier;
import java.util.Set;
import java.util.TreeSet;

/** The document's face, and rule 1 of LANGUAGE.md. */
public final class FaceTest {
    private static final String[] FACE = {"int write(int,long)", "int wipe()", "int fault()", "int lay()",
        "int pull(int,boolean)", "int run(int,int,int)", "int when(int,int,int)", "long lost(int,int)", "int snap(int)",
        "int wise()", "int best(int,int,int)", "int just(int,int)", "int span(int,int,int)", "int straight(int,int)",
        "int two(int)", "int reading(int,int,int)", "int fits(int,int)", "int mark(int,int)", "int told(int,int)",
        "int forget()", "int wind(int)", "int go(int,int)", "int weed()", "int now(int)", "int keep()", "int back()",
        "int count(int)"};

    public static void main(String[] args) {
        Set<String> want = new TreeSet<>(Set.of(FACE));
        Set<String> got = new TreeSet<>();
        Set<String> names = new TreeSet<>();
        for (Method m : BandBoat.class.getDeclaredMethods()) {
            if (!Modifier.isPrivate(m.getModifiers())) {
                got.add(told(m));
                names.add(m.getName());
            }
        }
        Check.due("the face is " + got, got.equals(want) ? 1 : 0, 1);
        noOtherBears(BandBoat.class, names);
        for (Class<?> inside : BandBoat.class.getDeclaredClasses()) {
            noOtherBears(inside, names);
            Check.due(inside + " is static", Modifier.isStatic(inside.getModifiers()) ? 1 : 0, 1);
            Check.due(inside + " is not public", Modifier.isPublic(inside.getModifiers()) ? 1 : 0, 0);
        }
        int constants = 0;
        for (Field f : BandBoat.class.getDeclaredFields()) {
            constants += Modifier.isPrivate(f.getModifiers()) ? 0 : 1;
        }
        Check.due("constants", constants, 4);
        Check.due("BAD", BandBoat.BAD, -1);
        Check.due("NO", BandBoat.NO, -2);
        Check.due("FULL", BandBoat.FULL, -3);
        Check.due("NONE", BandBoat.NONE, -4);
        Check.due("constructors", BandBoat.class.getDeclaredConstructors().length, 1);
        Check.due("final", Modifier.isFinal(BandBoat.class.getModifiers()) ? 1 : 0, 1);
        Check.end("FaceTest");
    }

    private static void noOtherBears(Class<?> where, Set<String> names) {
        for (Method m : where.getDeclaredMethods()) {
            boolean clash = names.contains(m.getName()) && Modifier.isPrivate(m.getModifiers());
            Check.due(where + " " + m.getName(), clash ? 1 : 0, 0);
        }
    }

    private static String told(Method m) {
        StringBuilder s = new StringBuilder(m.getReturnType() + " " + m.getName() + "(");
        for (int i = 0; i < m.getParameterCount(); i++) {
            s.append(i == 0 ? "" : ",").append(m.getParameterTypes()[i]);
        }
        return s.append(")").toString();
    }
}
