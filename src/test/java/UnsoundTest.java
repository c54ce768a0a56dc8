import java.lang.reflect.Field;
import java.util.List;

/** Promise 33 the other way: a store that was spoiled by hand, as no run of calls can, is not sound. */
public final class UnsoundTest {
    private UnsoundTest() {
    }

    public static void main(String[] args) throws ReflectiveOperationException {
        LogWeave counted = store();
        put(element(counted, "alertList", 1), "count", 5);
        Check.same("a wrong count", counted.isSound(), false);
        Check.same("as it is kept", counted.counted(1), 5);
        Check.same("found anew", counted.countedAnew(1), 2);

        for (int alert = 0; alert < 2; alert++) {
            for (int wrong : new int[] {-1, 1}) {
                LogWeave byOne = store();
                put(element(byOne, "alertList", alert), "count", byOne.counted(alert) + wrong);
                Check.same("a count of " + alert + " that is wrong by " + wrong, byOne.isSound(), false);
            }
        }

        LogWeave dropped = store();
        put(element(dropped, "lineList", 0), "state", 'd');
        Check.same("a firing stands on a dropped line", dropped.isSound(), false);

        LogWeave merged = store();
        put(element(merged, "patternList", 2), "merged", true);
        Check.same("a line of a merged pattern", merged.isSound(), false);

        LogWeave unfit = store();
        put(element(unfit, "lineList", 0), "pattern", element(unfit, "patternList", 2));
        Check.same("a line that does not fit its pattern", unfit.isSound(), false);

        LogWeave foreign = store();
        put(element(foreign, "patternList", 2), "source", 3);
        Check.same("a pattern of another source", foreign.isSound(), false);
        Check.end();
    }

    /** The first alert has fired on the line 0 and is quiet again, the second one counts two lines. */
    private static LogWeave store() {
        LogWeave store = new LogWeave();
        store.addAlert(0, 4, -1, 0, 1, 1, 0);
        store.addAlert(0, 0, 2, 7, 9, 50, 0);
        store.addLine(0, 4, 1, 1, 1, 9);
        store.pass(1);
        store.addLine(0, 0, 5, 6, 7, 9);
        store.addLine(0, 0, 8, 9, 7, 9);
        Check.same("sound", store.isSound(), true);
        Check.same("quiet", store.alertState(0), 'q');
        Check.same("stands on it", store.standsOn(0, 0), true);
        return store;
    }

    private static Object element(LogWeave store, String list, int number) throws ReflectiveOperationException {
        return ((List<?>) field(store, list).get(store)).get(number);
    }

    private static void put(Object owner, String name, Object value) throws ReflectiveOperationException {
        field(owner, name).set(owner, value);
    }

    private static Field field(Object owner, String name) throws ReflectiveOperationException {
        Field field = owner.getClass().getDeclaredField(name);
        field.setAccessible(true);
        return field;
    }
}
