/** The document's face, so that a test can ask the class, a kept run and the Model the same. */
interface Election {
    boolean secret(int i, int v);

    int key();

    int voter();

    long cast(int voter, int candidate, int r);

    long castPair(int voter, int a, int b);

    int close();

    boolean place(int i, int to, int r);

    boolean forge(int to, int a, int b);

    int mix();

    int shadow();

    int coin(int c);

    int share(int j);

    int tally();

    int count(int c);

    int about(int what);

    int list(int m, int i, int part);

    int shadowOf(int i, int part);

    int shown(int i, int what);

    int given(int j, int i);

    long entry(int i, int what);

    long chain(int i);
}
