/** The face of the document, so that a call can be made on the class and on the model alike. */
interface Face {
    boolean plug(int d, int bus, int identity);

    boolean unplug(int d);

    boolean enumerate(int bus);

    boolean noise(int bus, int k, int mask);

    int tick(int n);

    boolean sheet(int k, int v);

    int ask(int endpoint, int n);

    boolean sensor(int d, int v);

    int enumeration(int bus, int what);

    int node(int d, int what);

    int sense(int d, int what);

    int block(int d, int k);

    int request(int r, int what);

    int answer(int r, int k);

    int event(int k, int what);

    int wire(int bus, int k);
}
