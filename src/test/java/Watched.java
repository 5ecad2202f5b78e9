import java.util.ArrayList;
import java.util.List;

/**
 * A ProcessYields that keeps what it was told. An object is promised for 512 calls, and to read all of
 * its state may take more: so the state is read piece by piece, on new objects that are told the same.
 */
final class Watched {
    interface Call {
        long on(ProcessYields x);
    }

    private static final int MOST_CALLS = 512;

    private final ProcessYields x = new ProcessYields();
    private final List<Call> told = new ArrayList<>();

    boolean value(int good, int cents) {
        return tell(y -> y.value(good, cents) ? 1 : 0) == 1;
    }

    boolean recipe(int product) {
        return tell(y -> y.recipe(product) ? 1 : 0) == 1;
    }

    int needs(int product, int good, int up, int down) {
        return (int) tell(y -> y.needs(product, good, up, down));
    }

    int yields(int product, int good, int up, int down) {
        return (int) tell(y -> y.yields(product, good, up, down));
    }

    int in(int good, int n, int debt) {
        return (int) tell(y -> y.in(good, n, debt));
    }

    int made(int product, int n, boolean byValue) {
        return (int) tell(y -> y.made(product, n, byValue));
    }

    long export(int good, int n) {
        return tell(y -> y.export(good, n));
    }

    long release(int good, int n) {
        return tell(y -> y.release(good, n));
    }

    int prior(int good, int n, int until) {
        return (int) tell(y -> y.prior(good, n, until));
    }

    boolean day(int today) {
        return tell(y -> y.day(today) ? 1 : 0) == 1;
    }

    long chain(int product, int good, int side) {
        return tell(y -> y.chain(product, good, side));
    }

    long look(int good, int what) {
        return tell(y -> y.look(good, what));
    }

    long lot(int i, int what) {
        return tell(y -> y.lot(i, what));
    }

    long sum(int what) {
        return tell(y -> y.sum(what));
    }

    long quotient(int out, int yield) {
        return tell(y -> y.quotient(out, yield));
    }

    int count(int what) {
        return (int) tell(y -> y.count(what));
    }

    private long tell(Call call) {
        if (told.size() >= MOST_CALLS) {
            throw new AssertionError("the test makes more than 512 calls on one object");
        }
        told.add(call);
        return call.on(x);
    }

    /** All that can be read of it. */
    List<Long> state() {
        Reader reader = new Reader();
        for (int what = 0; what <= 3; what++) {
            int k = what;
            reader.read(y -> y.count(k));
        }
        for (int what = 0; what <= 4; what++) {
            int k = what;
            reader.read(y -> y.sum(k));
        }
        for (int good = 0; good < 12; good++) {
            int g = good;
            for (int what = 0; what <= 7; what++) {
                int k = what;
                reader.read(y -> y.look(g, k));
            }
            for (int other = 0; other < 12; other++) {
                int h = other;
                reader.read(y -> y.chain(g, h, 0));
                reader.read(y -> y.chain(g, h, 1));
            }
        }
        long lots = reader.all.get(0);
        for (int i = 0; i < lots; i++) {
            int lot = i;
            for (int what = 0; what <= 3; what++) {
                int k = what;
                reader.read(y -> y.lot(lot, k));
            }
        }
        return reader.all;
    }

    private final class Reader {
        private final List<Long> all = new ArrayList<>();
        private ProcessYields now;
        private int calls = MOST_CALLS;

        void read(Call call) {
            if (calls >= MOST_CALLS) {
                now = again();
                calls = told.size();
            }
            if (calls >= MOST_CALLS) {
                throw new AssertionError("the test leaves no call to read the state by");
            }
            calls++;
            all.add(call.on(now));
        }

        private ProcessYields again() {
            ProcessYields y = new ProcessYields();
            for (Call call : told) {
                try {
                    call.on(y);
                } catch (RuntimeException e) {
                    // What it throws was looked at when it was told first.
                }
            }
            return y;
        }
    }
}
