/** The face of the document, so that a test can ask the class and the plain model alike. */
interface Index {
    int add(int set, int v);

    int remove(int set, int v);

    int range(int set, int key, int from, int to, int how);

    int steps(int set, int key, int from, int step);

    int clear(int set);

    int join(int to, int what, int a, int b);

    int shrink(int set);

    int formula(int to, long signs, int n);

    int has(int set, int v);

    int rank(int set, int v);

    long select(int set, int i);

    long next(int set, int v);

    int count(int set, int what);

    int container(int set, int k, int what);

    int compare(int a, int b);

    int write(int set);

    int read(int set);

    int fault();

    int cut(int n);

    int type(long w, int m);

    int at(int i);

    int alter(int i, int v);

    int work();

    int size();

    long digest();
}
