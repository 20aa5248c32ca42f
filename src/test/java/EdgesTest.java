import java.lang.reflect.InvocationTargetException;
import java.lang.reflect.Method;
import java.util.Arrays;
import java.util.Comparator;
import java.util.function.BooleanSupplier;
import java.util.function.IntSupplier;
import java.util.regex.Matcher;
import java.util.regex.Pattern;

/**
 * Runs every test of the EdgesOf.. classes: one method for each boundary case that the document
 * names, p and the promise's number ahead of its name. They are found by reflection, so that none
 * can be written and then not run; a promise without any is a failure too.
 */
public final class EdgesTest {
    private static final Class<?>[] EDGES = {EdgesOfDays.class, EdgesOfBallots.class, EdgesOfLeaving.class,
        EdgesOfBeds.class, EdgesOfMoves.class, EdgesOfPlaces.class, EdgesOfPay.class, EdgesOfHalves.class,
        EdgesOfTapes.class, EdgesOfRules.class, EdgesOfClaims.class, EdgesOfNames.class, EdgesOfCounts.class};
    private static final Pattern NAME = Pattern.compile("p([0-9]+)_[a-zA-Z0-9]+");
    private static final int PROMISES = 25;

    /** Numbers that no bound of the document lets through, for arguments that begin at 0 or above. */
    static final int[] FAR = {Integer.MIN_VALUE, Integer.MIN_VALUE + 1, -2, Integer.MAX_VALUE - 1, Integer.MAX_VALUE};

    private final int[] testsOf = new int[PROMISES + 1];
    private int failed;

    public static void main(String[] args) {
        EdgesTest all = new EdgesTest();
        for (Class<?> edges : EDGES) {
            all.runEach(edges);
        }
        for (int promise = 1; promise <= PROMISES; promise++) {
            if (all.testsOf[promise] == 0) {
                all.fail("promise " + promise + " has no test of its edges");
            }
        }
        System.out.println(Arrays.stream(all.testsOf).sum() + " edges, " + all.failed + " failed");
        if (all.failed != 0) {
            System.exit(1);
        }
    }

    private void runEach(Class<?> edges) {
        Method[] methods = edges.getDeclaredMethods();
        Arrays.sort(methods, Comparator.comparing(Method::getName));
        for (Method method : methods) {
            Matcher name = NAME.matcher(method.getName());
            boolean isTest = Arrays.equals(method.getParameterTypes(), new Class<?>[] {Check.class});
            if (isTest && name.matches()) {
                testsOf[Integer.parseInt(name.group(1))]++;
                run(method);
            } else if (isTest) {
                fail(edges.getName() + "." + method.getName() + " names no promise");
            }
        }
    }

    private void run(Method method) {
        Check check = new Check(method.getDeclaringClass().getName() + "." + method.getName());
        try {
            method.invoke(null, check);
        } catch (InvocationTargetException | IllegalAccessException thrown) {
            fail(method.getName() + " threw " + (thrown.getCause() == null ? thrown : thrown.getCause()));
        }
        if (check.wrong() != 0) {
            failed++;
        }
    }

    private void fail(String why) {
        failed++;
        System.out.println("EdgesTest: " + why);
    }

    /** The call answers so, and nothing that can be asked is another than before. */
    static void refused(Check c, ScrapHouse x, String call, IntSupplier asked, int want) {
        String before = stateOf(x);
        c.due(call, asked.getAsInt(), want);
        c.due(call + " changes nothing", stateOf(x).equals(before), true);
    }

    static void refused(Check c, ScrapHouse x, String call, BooleanSupplier asked) {
        refused(c, x, call, () -> asked.getAsBoolean() ? 1 : 0, 0);
    }

    /** What a small house answers: some 60 calls, since an object is good for 512 of them alone. */
    private static String stateOf(ScrapHouse x) {
        StringBuilder state = new StringBuilder();
        int now = x.count(0);
        for (int what = 1; what <= 7; what++) {
            state.append(x.count(what)).append(' ');
        }
        state.append(now).append(' ').append(x.fault()).append(' ');
        for (int ballot = 0; ballot < Math.min(x.count(2), 2); ballot++) {
            for (int i = 0; i < 4; i++) {
                state.append(x.ball(ballot, i)).append(' ');
            }
        }
        for (int child = 0; child < Math.min(x.count(1), 3); child++) {
            state.append(x.told(child, 3)).append(' ').append(x.told(child, 7)).append(' ');
            for (int day = Math.max(0, now - 4); day <= now; day++) {
                state.append(x.place(child, day, now)).append(' ');
            }
            state.append(x.ask(0, child)).append(' ').append(x.ask(19, child)).append(' ');
        }
        return state.toString();
    }
}
