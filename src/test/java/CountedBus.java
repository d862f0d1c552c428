/**
 * A ManagedBus that tests use for at most 512 calls: the document leaves free what later ones
 * answer, so a test that went beyond would look at nothing that was promised.
 */
final class CountedBus implements Face {
    static final int MOST_CALLS = 512;

    private final ManagedBus bus = new ManagedBus();
    private int calls;

    private ManagedBus counted() {
        calls++;
        if (calls > MOST_CALLS) {
            throw new IllegalStateException("this test makes more than " + MOST_CALLS + " calls");
        }
        return bus;
    }

    int callsLeft() {
        return MOST_CALLS - calls;
    }

    @Override
    public boolean plug(int d, int b, int identity) {
        return counted().plug(d, b, identity);
    }

    @Override
    public boolean unplug(int d) {
        return counted().unplug(d);
    }

    @Override
    public boolean enumerate(int b) {
        return counted().enumerate(b);
    }

    @Override
    public boolean noise(int b, int k, int mask) {
        return counted().noise(b, k, mask);
    }

    @Override
    public int tick(int n) {
        return counted().tick(n);
    }

    @Override
    public boolean sheet(int k, int v) {
        return counted().sheet(k, v);
    }

    @Override
    public int ask(int endpoint, int n) {
        return counted().ask(endpoint, n);
    }

    @Override
    public boolean sensor(int d, int v) {
        return counted().sensor(d, v);
    }

    @Override
    public int enumeration(int b, int what) {
        return counted().enumeration(b, what);
    }

    @Override
    public int node(int d, int what) {
        return counted().node(d, what);
    }

    @Override
    public int sense(int d, int what) {
        return counted().sense(d, what);
    }

    @Override
    public int block(int d, int k) {
        return counted().block(d, k);
    }

    @Override
    public int request(int r, int what) {
        return counted().request(r, what);
    }

    @Override
    public int answer(int r, int k) {
        return counted().answer(r, k);
    }

    @Override
    public int event(int k, int what) {
        return counted().event(k, what);
    }

    @Override
    public int wire(int b, int k) {
        return counted().wire(b, k);
    }
}
