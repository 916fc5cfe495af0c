import java.lang.reflect.InvocationTargetException;
import java.lang.reflect.Method;
import java.util.ArrayList;
import java.util.List;

/** Long runs of calls on RugPunch and on the model: each answer and each exception must be the same. */
public final class ModelTest {
    private static final Check CHECK = new Check();
    private static final int RUNS = 600;
    private static final int CALLS = 512;

    private static final String[] ORDERS = {
        "s01", "s03", "s12", "s07", "j01", "j04", "j12", "l", "r", "c0", "c1", "c2", "c4", "h1", "h7", "h9", "x", "e",
        "m0", "m1", "m2", "m3",
    };
    private static final String SIGNS = "sjlrchxem0123456789()";

    private long seed;
    private final RugPunch rug = new RugPunch();
    private final Model model = new Model();
    private final List<String> calls = new ArrayList<>();
    private boolean failed;

    public static void main(String[] args) throws IllegalAccessException {
        List<Method> asking = new ArrayList<>();
        List<Method> acting = new ArrayList<>();
        for (Method method : RugPunch.class.getDeclaredMethods()) {
            if (java.lang.reflect.Modifier.isPublic(method.getModifiers())) {
                boolean acts = " setPlan fillPlan thread cut sew jump turnLeft turnRight ease setHeight place wind mend unpick shear store run runText undo restore save "
                        .contains(" " + method.getName() + " ");
                (acts ? acting : asking).add(method);
            }
        }
        asking.sort((one, other) -> one.getName().compareTo(other.getName()));
        acting.sort((one, other) -> one.getName().compareTo(other.getName()));
        for (int run = 0; run < RUNS; run++) {
            ModelTest test = new ModelTest();
            test.seed = 7919L * run + 5;
            test.go(run % 6, asking, acting);
        }
        CHECK.finish("ModelTest");
    }

    private int number(int limit) {
        seed = seed * 6364136223846793005L + 1442695040888963407L;
        return (int) ((seed >>> 33) % limit);
    }

    private void go(int mood, List<Method> asking, List<Method> acting) throws IllegalAccessException {
        for (int made = 0; made < CALLS && !failed; made++) {
            int dice = number(100);
            if (dice < 8 && mood != 5) {
                writeSomething(mood);
            } else if (dice < 45) {
                call(asking.get(number(asking.size())), mood);
            } else if (dice < 70 && mood % 2 == 1) {
                needleCall(mood);
            } else {
                Method method = acting.get(number(acting.size()));
                boolean rare = method.getName().equals("restore") || method.getName().equals("shear")
                        || method.getName().equals("fillPlan");
                if (!rare || number(4) == 0) {
                    call(method, mood);
                }
            }
        }
    }

    private void needleCall(int mood) throws IllegalAccessException {
        String[] names = {"sew", "sew", "jump", "turnRight", "runText", "run", "thread", "ease"};
        String name = names[number(names.length)];
        for (Method method : RugPunch.class.getDeclaredMethods()) {
            if (method.getName().equals(name)) {
                call(method, mood);
            }
        }
    }

    private void writeSomething(int mood) {
        StringBuilder text = new StringBuilder();
        int parts = 1 + number(mood == 4 ? 40 : 12);
        boolean inside = false;
        for (int i = 0; i < parts; i++) {
            if (!inside && number(3) == 0) {
                text.append(2 + number(8)).append('(');
                inside = true;
            }
            text.append(ORDERS[number(ORDERS.length - (mood == 2 ? 0 : 1))]);
            if (inside && number(4) == 0) {
                text.append(')');
                inside = false;
            }
        }
        if (inside) {
            text.append(')');
        }
        if (number(12) == 0) {
            text.setCharAt(number(text.length()), SIGNS.charAt(number(SIGNS.length())));
        }
        give("clearText", rug.clearText(), model.answer("clearText"));
        for (int at = 0; at < text.length() && at < 120; at++) {
            give("append " + text.charAt(at), rug.append(text.charAt(at)), model.answer("append", text.charAt(at)));
        }
        give("errorPosition", rug.errorPosition(), model.answer("errorPosition"));
    }

    private void call(Method method, int mood) throws IllegalAccessException {
        Class<?>[] types = method.getParameterTypes();
        Object[] given = new Object[types.length];
        long[] with = new long[types.length];
        for (int i = 0; i < types.length; i++) {
            with[i] = types[i] == long.class ? seed : argument(method.getName(), i);
            if (types[i] == long.class) {
                given[i] = with[i];
            } else {
                given[i] = (int) with[i];
            }
        }
        String name = method.getName() + java.util.Arrays.toString(with);
        double got = 0;
        String thrown = "";
        try {
            Object answer = method.invoke(rug, given);
            got = answer instanceof Boolean ? ((Boolean) answer ? 1 : 0) : ((Number) answer).doubleValue();
        } catch (InvocationTargetException e) {
            thrown = e.getCause().getClass().getName();
        }
        double due = 0;
        String dueThrown = "";
        try {
            due = model.answer(method.getName(), with);
        } catch (RuntimeException e) {
            dueThrown = e.getClass().getName();
        }
        give(name, got, due);
        calls.set(calls.size() - 1, calls.get(calls.size() - 1) + " " + thrown);
        if (!thrown.equals(dueThrown)) {
            tell(name + " threw '" + thrown + "', due is '" + dueThrown + "'");
        }
    }

    private void give(String name, double got, double due) {
        calls.add(name + " -> " + got);
        CHECK.same(name, got, due);
        if (got != due) {
            tell("");
        }
    }

    private void tell(String what) {
        failed = true;
        CHECK.holds(what + " behind " + calls, false);
    }

    /** Mostly an argument in its range, at times its ends, at times one outside. */
    private int argument(String name, int place) {
        int[] range = rangeOf(name, place);
        switch (number(30)) {
            case 0:
                return range[0] - 1;
            case 1:
                return range[1] + 1;
            case 2:
                return number(2) == 0 ? Integer.MIN_VALUE : Integer.MAX_VALUE;
            case 3:
                return range[0];
            case 4:
                return range[1];
            default:
                return range[0] + number(range[1] - range[0] + 1);
        }
    }

    private static int[] rangeOf(String name, int place) {
        switch (name) {
            case "append":
                return new int[] {0, 255};
            case "planOf": case "loopOf": case "heightOf": case "isSkipped": case "mend": case "unpick":
            case "whyNoMending":
                return new int[] {0, 143};
            case "setPlan":
                return place == 0 ? new int[] {0, 143} : new int[] {-1, 4};
            case "fillPlan":
                return place < 2 ? new int[] {0, 143} : new int[] {-1, 4};
            case "place":
                return place == 0 ? new int[] {0, 143} : new int[] {0, 3};
            case "wind":
                return place == 0 ? new int[] {0, 4} : new int[] {1, 9999};
            case "motifSign":
                return place == 0 ? new int[] {0, 3} : new int[] {0, 30};
            case "motifLength": case "store": case "run":
                return new int[] {0, 3};
            case "sew": case "jump":
                return new int[] {1, 12};
            case "setHeight": case "shear":
                return new int[] {1, 9};
            case "simulate":
                return new int[] {1, 60};
            case "save": case "restore":
                return new int[] {0, 1};
            default:
                return new int[] {0, 4};
        }
    }
}
