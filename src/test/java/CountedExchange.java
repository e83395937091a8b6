/**
 * A CodeExchange whose calls are counted. What an object answers behind its 512th call is free, so
 * a test that asks for more has lost its ground, and is told so.
 */
final class CountedExchange {
  static final int MOST_CALLS = 512;

  private final CodeExchange x = new CodeExchange();
  private int calls = 0;

  private CodeExchange next() {
    calls++;
    if (calls > MOST_CALLS) {
      throw new IllegalStateException("the test asks one object more than " + MOST_CALLS + " times");
    }
    return x;
  }

  int calls() {
    return calls;
  }

  int page(int kind) {
    return next().page(kind);
  }

  int derive(int q) {
    return next().derive(q);
  }

  int entry(int p, int state, int bytes, int n, int code) {
    return next().entry(p, state, bytes, n, code);
  }

  int shift(int p, int state, int b, int to, boolean sticky) {
    return next().shift(p, state, b, to, sticky);
  }

  int drop(int p, int state, int bytes, int n) {
    return next().drop(p, state, bytes, n);
  }

  int close(int p) {
    return next().close(p);
  }

  int size(int p, int what) {
    return next().size(p, what);
  }

  long code(int p, int point) {
    return next().code(p, point);
  }

  int bytesIn(long w, int n) {
    return next().bytesIn(w, n);
  }

  int unitsIn(long w, int n) {
    return next().unitsIn(w, n);
  }

  int fill(int what) {
    return next().fill(what);
  }

  int decode(int p, int rule) {
    return next().decode(p, rule);
  }

  int encode(int p, int rule) {
    return next().encode(p, rule);
  }

  int transcode(int p, int rule, int q, int by) {
    return next().transcode(p, rule, q, by);
  }

  int result(int i) {
    return next().result(i);
  }

  int sign(int which, int point) {
    return next().sign(which, point);
  }

  int fallback(int point) {
    return next().fallback(point);
  }

  int begin(int d, int p, boolean writes, int rule) {
    return next().begin(d, p, writes, rule);
  }

  int feed(int d, int v) {
    return next().feed(d, v);
  }

  int end(int d) {
    return next().end(d);
  }

  int take(int d) {
    return next().take(d);
  }

  int machine(int d, int what) {
    return next().machine(d, what);
  }

  int coverage(int p, int from, int to) {
    return next().coverage(p, from, to);
  }

  int differ(int p, int q, int from) {
    return next().differ(p, q, from);
  }

  int misread(int p, int q) {
    return next().misread(p, q);
  }

  int faults(int p) {
    return next().faults(p);
  }

  int detect() {
    return next().detect();
  }

  int lengths(int p, int what) {
    return next().lengths(p, what);
  }

  int send(int p) {
    return next().send(p);
  }

  int receive() {
    return next().receive();
  }

  int told(int what) {
    return next().told(what);
  }
}
