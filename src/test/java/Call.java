import java.util.function.Function;

/** One call of the face by name, so that it can be made on several objects. */
final class Call {
    static final String THROWS_ARGUMENT = "throws.IllegalArgumentException";
    static final String THROWS_INDEX = "throws.IndexOutOfBoundsException";

    private final String name;
    private final Function<ChainPicker, Object> body;

    private Call(String name, Function<ChainPicker, Object> body) {
        this.name = name;
        this.body = body;
    }

    String answer(ChainPicker x) {
        try {
            return body.apply(x).toString();
        } catch (RuntimeException e) {
            return "throws." + e.getClass().getSimpleName();
        }
    }

    @Override
    public String toString() {
        return name;
    }

    static Call pass(int n) {
        return new Call("pass(" + n + ")", x -> x.pass(n));
    }

    static Call begin(int series, int level) {
        return new Call("begin(" + series + ", " + level + ")", x -> x.begin(series, level));
    }

    static Call tell(int job, int file, int version) {
        return new Call("tell(" + job + ", " + file + ", " + version + ")",
                x -> x.tell(job, file, version));
    }

    static Call end(int job, boolean good) {
        return new Call("end(" + job + ", " + good + ")", x -> x.end(job, good));
    }

    static Call chain(int series, int time) {
        return new Call("chain(" + series + ", " + time + ")", x -> x.chain(series, time));
    }

    static Call link(int series, int time, int i) {
        return new Call("link(" + series + ", " + time + ", " + i + ")", x -> x.link(series, time, i));
    }

    static Call view(int series, int time, int file) {
        return new Call("view(" + series + ", " + time + ", " + file + ")",
                x -> x.view(series, time, file));
    }

    static Call files(int series, int time) {
        return new Call("files(" + series + ", " + time + ")", x -> x.files(series, time));
    }

    static Call source(int series, int time, int file) {
        return new Call("source(" + series + ", " + time + ", " + file + ")",
                x -> x.source(series, time, file));
    }

    static Call prune(int job) {
        return new Call("prune(" + job + ")", x -> x.prune(job));
    }

    static Call expire(int n) {
        return new Call("expire(" + n + ")", x -> x.expire(n));
    }

    static Call job(int job, int what) {
        return new Call("job(" + job + ", " + what + ")", x -> x.job(job, what));
    }

    static Call count(int what) {
        return new Call("count(" + what + ")", x -> x.count(what));
    }
}
