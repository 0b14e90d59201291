import java.lang.reflect.InvocationTargetException;
import java.lang.reflect.Method;
import java.lang.reflect.Proxy;
import java.util.Arrays;
import java.util.List;
import java.util.function.Consumer;

/**
 * Models that answer as the document asks, but for one method with one row of arguments. They do so from the
 * first passDay on, so that the calls with which a test begins are not met by the fault.
 */
final class Breaks {
    private Breaks() {
    }

    /** The method answers these arguments with -1, where it is to refuse them. */
    static Trial.Maker accepting(String method, Integer... arguments) {
        return () -> otherwise(method, Arrays.asList(arguments), null);
    }

    /** The method refuses these arguments, where it is to answer. */
    static Trial.Maker refusing(String method, Integer... arguments) {
        return () -> otherwise(method, Arrays.asList(arguments), new IndexOutOfBoundsException());
    }

    /** The method refuses these arguments with another exception than the one that is due. */
    static Trial.Maker wrongly(RuntimeException exception, String method, Integer... arguments) {
        return () -> otherwise(method, Arrays.asList(arguments), exception);
    }

    /** When the method refuses a call, a number is used up all the same, which only a later new folder shows. */
    static Trial.Maker usingUpANumber(String method) {
        return () -> whenRefused(method, model -> model.came++);
    }

    /** When the method refuses a call, a day passes all the same. */
    static Trial.Maker passingADay(String method) {
        return () -> whenRefused(method, Model::passDay);
    }

    private static Archive otherwise(String name, List<Integer> arguments, RuntimeException exception) {
        return archive((model, method, given) -> {
            List<?> row = given == null ? List.of() : Arrays.asList(given);
            if (!method.getName().equals(name) || !row.equals(arguments)) {
                return answer(model, method, given);
            }
            if (exception != null) {
                throw exception;
            }
            return -1;
        });
    }

    private static Archive whenRefused(String name, Consumer<Model> change) {
        return archive((model, method, given) -> {
            try {
                return answer(model, method, given);
            } catch (RuntimeException e) {
                if (method.getName().equals(name)) {
                    change.accept(model);
                }
                throw e;
            }
        });
    }

    private interface Answers {
        Object answer(Model model, Method method, Object[] given) throws Throwable;
    }

    private static Archive archive(Answers faulty) {
        Model model = new Model();
        boolean[] hasDayPassed = {false};
        return (Archive) Proxy.newProxyInstance(Archive.class.getClassLoader(), new Class<?>[] {Archive.class},
                (proxy, method, given) -> {
                    boolean isFaulty = hasDayPassed[0];
                    hasDayPassed[0] |= method.getName().equals("passDay");
                    return isFaulty ? faulty.answer(model, method, given) : answer(model, method, given);
                });
    }

    private static Object answer(Model model, Method method, Object[] given) throws Throwable {
        try {
            return method.invoke(model, given);
        } catch (InvocationTargetException e) {
            throw e.getCause();
        }
    }
}
