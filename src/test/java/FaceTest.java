import java.lang.reflect.Constructor;
import java.lang.reflect.Field;
import java.lang.reflect.Member;
import java.lang.reflect.Method;
import java.lang.reflect.Modifier;
import java.util.Arrays;
import java.util.Set;
import java.util.TreeSet;

/** The class has the document's face and no other member that is not private. */
public final class FaceTest {
    private static final String FACE = "int feed(int,int,int,int,int) boolean end(int)"
        + " int house() throws IllegalArgumentException,UnsupportedOperationException"
        + " int law() throws IllegalArgumentException int fault()"
        + " int room(int,int) throws IndexOutOfBoundsException,NoSuchElementException"
        + " int sand(int,int) throws IndexOutOfBoundsException"
        + " int person(int,int) throws IndexOutOfBoundsException,NoSuchElementException"
        + " int load(int,int) throws IndexOutOfBoundsException int habit(int,int) throws IndexOutOfBoundsException"
        + " int rule(int,int,int) throws IndexOutOfBoundsException,NoSuchElementException"
        + " int rounds(int) throws IllegalArgumentException int sweep(int) throws IndexOutOfBoundsException"
        + " int beat(int) throws IndexOutOfBoundsException"
        + " int tool(int,int) throws IndexOutOfBoundsException,IllegalArgumentException"
        + " int keep(int,int) throws IndexOutOfBoundsException,IllegalArgumentException"
        + " int soak(int,int) throws IndexOutOfBoundsException,IllegalArgumentException"
        + " int trial(int,int) throws IllegalArgumentException,NoSuchElementException"
        + " int worth(int,int,int) throws IndexOutOfBoundsException,IllegalArgumentException"
        + " int stand(int,int,boolean) throws IllegalArgumentException"
        + " int two(int,int) throws IllegalArgumentException int keepers(int,int) throws IllegalArgumentException"
        + " int chores(int,boolean) throws IllegalArgumentException int often(int,int) throws IllegalArgumentException"
        + " int when(int) throws IllegalArgumentException int clogs() int fades(int) throws IllegalArgumentException"
        + " int later(int,int) throws IndexOutOfBoundsException,IllegalArgumentException"
        + " int towel(int,int,int) throws IndexOutOfBoundsException,IllegalArgumentException"
        + " int towelled(int,int) throws IndexOutOfBoundsException,IllegalArgumentException"
        + " int span(int,boolean) throws IllegalArgumentException int peak(int) throws IllegalArgumentException"
        + " int carries(int,boolean) throws IndexOutOfBoundsException int whose(int) throws IndexOutOfBoundsException"
        + " int share(int,int) throws IndexOutOfBoundsException int blame() int itch(int) throws IllegalArgumentException"
        + " int ways(int,int) throws IndexOutOfBoundsException"
        + " int cross(int,int) throws IndexOutOfBoundsException,IllegalArgumentException"
        + " int noon() throws IllegalArgumentException int heels(int) int log(int,int) throws NoSuchElementException"
        + " int led(int,int) throws IndexOutOfBoundsException,IllegalArgumentException int seed(int) boolean undo()"
        + " void image() boolean back() int count(int)";

    private static int wrong = 0;

    private static void complain(String text) {
        wrong++;
        System.out.println(text);
    }

    private static String simple(Class<?>[] types) {
        return String.join(",", Arrays.stream(types).map(Class::getSimpleName).toArray(String[]::new));
    }

    private static boolean hidden(Member m) {
        return Modifier.isPrivate(m.getModifiers()) || m.isSynthetic();
    }

    public static void main(String[] args) {
        Set<String> due = new TreeSet<>(Arrays.asList(FACE.split(" (?=int |boolean |void )")));
        Set<String> there = new TreeSet<>();
        Set<String> names = new TreeSet<>();
        for (Method m : SandHouse.class.getDeclaredMethods()) {
            if (!hidden(m)) {
                names.add(m.getName());
                String text = m.getReturnType().getSimpleName() + " " + m.getName() + "(" + simple(m.getParameterTypes()) + ")";
                there.add(m.getExceptionTypes().length == 0 ? text : text + " throws " + simple(m.getExceptionTypes()));
                if (!Modifier.isPublic(m.getModifiers()) || Modifier.isStatic(m.getModifiers())) {
                    complain("not a plain public method: " + m);
                }
            }
        }
        if (due.size() != 48 || !due.equals(there)) {
            complain("the face is " + there + ", due is " + due);
        }
        for (Field f : SandHouse.class.getDeclaredFields()) {
            if (!hidden(f) && !f.getName().equals("NONE")) {
                complain("a field that is not private: " + f);
            }
        }
        Constructor<?>[] makers = SandHouse.class.getDeclaredConstructors();
        if (makers.length != 1 || !Modifier.isPublic(makers[0].getModifiers()) || makers[0].getParameterCount() != 0) {
            complain("constructors: " + Arrays.toString(makers));
        }
        if (!Modifier.isFinal(SandHouse.class.getModifiers()) || !Modifier.isPublic(SandHouse.class.getModifiers())) {
            complain("the class is not public and final");
        }
        checkHelpers(names);
        if (SandHouse.NONE != -1) {
            complain("NONE is " + SandHouse.NONE);
        }
        System.out.println(wrong == 0 ? "the face is as due" : wrong + " faults of the face");
        if (wrong != 0) {
            System.exit(1);
        }
    }

    private static void checkHelpers(Set<String> names) {
        for (Method m : SandHouse.class.getDeclaredMethods()) {
            if (hidden(m) && names.contains(m.getName())) {
                complain("a private method bears a public name: " + m);
            }
        }
        Class<?>[] inside = SandHouse.class.getDeclaredClasses();
        if (inside.length > 12) {
            complain("classes inside: " + inside.length);
        }
        for (Class<?> c : inside) {
            int mods = c.getModifiers();
            if (!Modifier.isStatic(mods) || Modifier.isPublic(mods) || Modifier.isProtected(mods)) {
                complain("a class inside is not static, or too visible: " + c);
            }
            for (Method m : c.getDeclaredMethods()) {
                if (names.contains(m.getName()) || m.getParameterCount() > 7) {
                    complain("a method inside bears a public name, or has too many parameters: " + m);
                }
            }
            for (Field f : c.getDeclaredFields()) {
                if (Modifier.isStatic(f.getModifiers()) && !Modifier.isFinal(f.getModifiers())) {
                    complain("static state: " + f);
                }
            }
        }
    }
}
