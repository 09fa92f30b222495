/** A QuerySteps whose calls are counted, as nothing is promised about the 513th and later ones. */
final class Calls {
    static final int MOST = 512;

    private final QuerySteps object = new QuerySteps();
    private int count = 0;

    int count() {
        return count;
    }

    private QuerySteps next() {
        count++;
        if (count == MOST + 1) {
            Steps.due("a test that makes more calls than the document allows", count, MOST);
        }
        return object;
    }

    void sign(int c) {
        next().sign(c);
    }

    int index() {
        return next().index();
    }

    boolean on(int index, boolean on) {
        return next().on(index, on);
    }

    int read(int form) {
        return next().read(form);
    }

    int node(int i, int what) {
        return next().node(i, what);
    }

    int near() {
        return next().near();
    }

    int record(long moment) {
        return next().record(moment);
    }

    int entry(int record, int index, int v) {
        return next().entry(record, index, v);
    }

    int save(int question) {
        return next().save(question);
    }

    int run(int question) {
        return next().run(question);
    }

    int alert(int question) {
        return next().alert(question);
    }

    int at(int i) {
        return next().at(i);
    }

    boolean same(int a, int b) {
        return next().same(a, b);
    }

    int broken() {
        return next().broken();
    }
}
