import java.lang.reflect.Constructor;
import java.lang.reflect.Field;
import java.lang.reflect.Method;
import java.lang.reflect.Modifier;
import java.util.Set;
import java.util.TreeSet;

/** The face: just the constants, the constructor and the methods of the document. */
public final class FaceTest {
    private static final Check CHECK = new Check();

    private static final String[] FACE = {
        "int append(int)", "int clearText()", "int errorPosition()", "int planOf(int)", "int loopOf(int)",
        "int heightOf(int)", "boolean isSkipped(int)", "int right()", "int missing()", "int wrong()",
        "int skipped()", "int areasBySpreading(int)", "int areasByJoining(int)", "float density()",
        "double meanHeight()", "int needle()", "int heading()", "int threaded()", "int height()", "int tension()",
        "boolean canGo()", "boolean wouldSkip()", "int coneOf(int)", "int drawnByCone(int)", "int drawnByRug(int)",
        "int wasteOf(int)", "int neededFor(int)", "int untilKnot(int)", "int knots()", "int motifLength(int)",
        "int motifSign(int,int)", "int setPlan(int,int)", "int fillPlan(int,int,int)", "int thread(int)",
        "int cut()", "int sew(int)", "int jump(int)", "int turnLeft()", "int turnRight()", "int ease()",
        "int setHeight(int)", "int place(int,int)", "int wind(int,int)", "int mend(int)", "int unpick(int)",
        "int shear(int)", "int store(int)", "int run(int)", "int runText()", "int undo()", "int whyNoStitch()",
        "int whyNoMending(int)", "int couldSew()", "int nearestByRings(int)", "int nearestByCells(int)",
        "int loopsBy()", "int needleBy()", "int yarnBy(int)", "int simulate(long,int)", "int save(int)",
        "int restore(int)",
    };

    public static void main(String[] args) {
        Set<String> face = new TreeSet<>(java.util.List.of(FACE));
        Set<String> names = new TreeSet<>();
        for (String method : FACE) {
            names.add(method.substring(method.indexOf(' ') + 1, method.indexOf('(')));
        }
        Set<String> found = new TreeSet<>();
        for (Method method : RugPunch.class.getDeclaredMethods()) {
            if (Modifier.isPublic(method.getModifiers())) {
                found.add(signature(method));
            } else {
                CHECK.holds(method + " is private", Modifier.isPrivate(method.getModifiers()));
                CHECK.holds(method + " has a name of its own", !names.contains(method.getName()));
            }
        }
        CHECK.holds("the methods are the ones of the document: " + found, found.equals(face));
        fields();
        Constructor<?>[] constructors = RugPunch.class.getDeclaredConstructors();
        CHECK.same("constructors", constructors.length, 1);
        CHECK.holds("the constructor is public", Modifier.isPublic(constructors[0].getModifiers()));
        CHECK.holds("the class is final", Modifier.isFinal(RugPunch.class.getModifiers()));
        CHECK.same("NONE", RugPunch.NONE, -1);
        for (Class<?> inner : RugPunch.class.getDeclaredClasses()) {
            CHECK.holds(inner + " is static", Modifier.isStatic(inner.getModifiers()));
            for (Method method : inner.getDeclaredMethods()) {
                CHECK.holds(method + " has a name of its own",
                        !Modifier.isPrivate(method.getModifiers()) || !names.contains(method.getName()));
            }
        }
        CHECK.finish("FaceTest");
    }

    private static void fields() {
        for (Field field : RugPunch.class.getDeclaredFields()) {
            boolean constant = field.getName().equals("NONE");
            CHECK.holds(field + " is private", constant || Modifier.isPrivate(field.getModifiers()));
            CHECK.holds(field + " is no static state",
                    !Modifier.isStatic(field.getModifiers()) || Modifier.isFinal(field.getModifiers()));
        }
    }

    private static String signature(Method method) {
        StringBuilder all = new StringBuilder();
        all.append(method.getReturnType().getName()).append(' ').append(method.getName()).append('(');
        Class<?>[] types = method.getParameterTypes();
        for (int i = 0; i < types.length; i++) {
            all.append(i == 0 ? "" : ",").append(types[i].getName());
        }
        return all.append(')').toString();
    }
}
