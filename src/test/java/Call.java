import java.lang.reflect.InvocationTargetException;
import java.lang.reflect.Method;
import java.util.Arrays;
import java.util.stream.Collectors;

/** One call on an object by its name, so that its words can be told beside its answer. */
final class Call {
    private final Method method;
    private final Object[] with;

    private Call(Method method, Object[] with) {
        this.method = method;
        this.with = with;
    }

    /** The numbers come as int, where the face wants a long they are widened. */
    static Call of(String name, Object... with) {
        for (Method method : GooseVotes.class.getMethods()) {
            if (method.getName().equals(name) && method.getParameterCount() == with.length) {
                return new Call(method, with);
            }
        }
        throw new IllegalArgumentException("the face has no " + name + " of " + with.length);
    }

    long on(GooseVotes x) {
        try {
            return ((Number) method.invoke(x, with)).longValue();
        } catch (IllegalAccessException e) {
            throw new IllegalStateException(e);
        } catch (InvocationTargetException e) {
            throw new IllegalStateException(this + " threw", e.getCause());
        }
    }

    @Override
    public String toString() {
        return method.getName() + Arrays.stream(with).map(String::valueOf).collect(Collectors.joining(", ", "(", ")"));
    }
}
