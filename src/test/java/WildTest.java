import java.lang.reflect.Constructor;
import java.lang.reflect.Field;
import java.lang.reflect.Method;
import java.lang.reflect.Modifier;
import java.util.ArrayList;
import java.util.Arrays;
import java.util.List;
import java.util.Random;
import java.util.TreeSet;

/** The face is the document's, and no call throws, whatever it is asked in whatever state. */
public final class WildTest {
    private static final Check check = new Check("WildTest");
    private static final String FACE = "asks/3 back/0 bond/2 cell/3 clear/0 copy/5 count/1 day/2 drawn/3 falls/2 "
        + "feed/6 film/3 force/1 image/0 judge/2 kinds/3 laws/2 live/0 man/3 menBy/4 net/1 odds/4 pass/2 pillar/1 "
        + "plaits/2 ring/1 ripe/2 run/2 set/3 sheet/3 since/2 soonest/2 take/3 taken/2 text/0 told/2 vow/3 whose/1";

    public static void main(String[] args) throws Exception {
        face();
        wildRuns();
        check.end();
    }

    private static void face() throws Exception {
        Class<?> c = BeardsAreBonds.class;
        check.due("public and final", c.getModifiers() & (Modifier.PUBLIC | Modifier.FINAL),
            Modifier.PUBLIC | Modifier.FINAL);
        TreeSet<String> names = new TreeSet<>();
        for (Method m : c.getDeclaredMethods()) {
            if (Modifier.isPrivate(m.getModifiers())) {
                String bare = m.getName() + "/";
                boolean free = Arrays.stream(FACE.split(" ")).noneMatch(f -> f.startsWith(bare));
                check.due("no private method is named as a public one: " + m.getName(), free ? 1 : 0, 1);
            } else {
                names.add(m.getName() + "/" + m.getParameterCount());
                boolean isLong = m.getName().equals("since") || m.getName().equals("odds");
                check.due("type of " + m.getName(), m.getReturnType() == (isLong ? long.class : int.class) ? 1 : 0, 1);
            }
        }
        check.due("the face: " + names, names.equals(new TreeSet<>(Arrays.asList(FACE.split(" ")))) ? 1 : 0, 1);
        int constants = 0;
        for (Field f : c.getDeclaredFields()) {
            constants += Modifier.isPrivate(f.getModifiers()) ? 0 : 1;
        }
        check.due("public constants", constants, 5);
        check.due("NONE", BeardsAreBonds.NONE, -1);
        check.due("BAD", BeardsAreBonds.BAD, -2);
        check.due("STATE", BeardsAreBonds.STATE, -3);
        check.due("FULL", BeardsAreBonds.FULL, -4);
        check.due("NO", BeardsAreBonds.NO, -4611686018427387904L);
        Constructor<?>[] constructors = c.getDeclaredConstructors();
        check.due("constructors", constructors.length, 1);
    }

    private static void wildRuns() {
        List<Method> methods = new ArrayList<>();
        for (String f : FACE.split(" ")) {
            for (Method m : BeardsAreBonds.class.getMethods()) {
                if (m.getDeclaringClass() == BeardsAreBonds.class && f.startsWith(m.getName() + "/")) {
                    methods.add(m);
                }
            }
        }
        for (int r = 0; r < 150; r++) {
            Random dice = new Random(r);
            BeardsAreBonds x = new BeardsAreBonds();
            for (int k = 0; k < 512; k++) {
                Method m = methods.get(dice.nextInt(methods.size()));
                Object[] given = new Object[m.getParameterCount()];
                for (int i = 0; i < given.length; i++) {
                    given[i] = number(dice);
                }
                try {
                    m.invoke(x, given);
                } catch (ReflectiveOperationException e) {
                    check.due(m.getName() + Arrays.toString(given) + " threw " + e.getCause(), 0, 1);
                    return;
                }
            }
        }
    }

    private static int number(Random dice) {
        switch (dice.nextInt(8)) {
            case 0: return dice.nextInt();
            case 1: return Integer.MAX_VALUE - dice.nextInt(3);
            case 2: return Integer.MIN_VALUE + dice.nextInt(3);
            case 3: return dice.nextInt(1100);
            case 4: return dice.nextInt(62) - 1;
            default: return dice.nextInt(8) - 1;
        }
    }
}
