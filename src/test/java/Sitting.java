import java.util.ArrayList;
import java.util.List;
import java.util.function.ToIntFunction;

/**
 * A ProgramReader for a test that asks much: the document leaves free what is answered behind the
 * 512th call, so when these are used up a new object is brought to the same state, by the calls
 * that can change one, and asked instead.
 */
final class Sitting {
    static final int MOST_CALLS = 512;

    private ProgramReader reader = new ProgramReader();
    private int calls = 0;
    private final List<ToIntFunction<ProgramReader>> changes = new ArrayList<>();

    int feed(int a, int b, int c, int d, int e) {
        return change(x -> x.feed(a, b, c, d, e));
    }

    int read(int tree, int n) {
        return change(x -> x.read(tree, n));
    }

    int write(int tree, int k) {
        return change(x -> x.write(tree, k));
    }

    int again() {
        return change(x -> x.again());
    }

    int nodes(int tree) {
        return ask(x -> x.nodes(tree));
    }

    int node(int tree, int k, int what) {
        return ask(x -> x.node(tree, k, what));
    }

    int part(int tree, int k, int i) {
        return ask(x -> x.part(tree, k, i));
    }

    int whole(int tree, int k) {
        return ask(x -> x.whole(tree, k));
    }

    int names() {
        return ask(x -> x.names());
    }

    int spelt(int name, int i) {
        return ask(x -> x.spelt(name, i));
    }

    int written(int i) {
        return ask(x -> x.written(i));
    }

    boolean same() {
        return ask(x -> x.same() ? 1 : 0) == 1;
    }

    private int change(ToIntFunction<ProgramReader> call) {
        int answer = ask(call);
        changes.add(call);
        return answer;
    }

    private int ask(ToIntFunction<ProgramReader> call) {
        if (calls == MOST_CALLS) {
            renew();
        }
        calls++;
        return call.applyAsInt(reader);
    }

    private void renew() {
        if (changes.size() >= MOST_CALLS) {
            throw new IllegalStateException("this test changes one object by more than 511 calls");
        }
        reader = new ProgramReader();
        for (ToIntFunction<ProgramReader> call : changes) {
            call.applyAsInt(reader);
        }
        calls = changes.size();
    }
}
