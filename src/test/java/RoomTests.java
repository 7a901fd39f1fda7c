import com.sun.management.ThreadMXBean;
import java.lang.management.ManagementFactory;

/** All that a run makes stays in one room: the dearest calls, 512 of them, may make next to nothing. */
public final class RoomTests {
  private static final ThreadMXBean THREADS = (ThreadMXBean) ManagementFactory.getThreadMXBean();
  private static int wrong = 0;

  private static long made() { return THREADS.getThreadAllocatedBytes(Thread.currentThread().getId()); }

  private static void must(String what, long bytes, long most) {
    if (bytes > most) {
      wrong++;
      System.out.println(what + " made " + bytes + " bytes, " + most + " at most are due");
    }
  }

  private static RootBoxes busy() {
    RootBoxes x = new RootBoxes();
    String text = "f 4 0 0;f -1 2 0;g -2 0 2;least 3;box -512 512 -512 512";
    for (int k = 0; k < text.length(); k++) x.write(text.charAt(k));
    x.tell();
    for (int k = 0; k < 10; k++) x.steps(20);
    x.hold(-512, 512, -512, 512);
    for (int k = 0; k < 200; k++) x.write(k % 8 == 7 ? ';' : "f 1 0 0 ".charAt(k % 8));
    return x;
  }

  private static long calls(RootBoxes x) {
    long sum = 0;
    for (int k = 0; k < 50; k++) {
      sum += x.broken() + x.fault() + x.verdict() + x.fence(k % 6) + x.value(0, 0) + x.slope(0, 0, 0) + x.find(k, k) + x.count(k % 15);
      sum += x.entry(k, 5) + x.first(0) + x.back(k % 2) + x.keep(k % 2) + x.step();
    }
    return sum;
  }

  public static void main(String[] args) {
    calls(busy());
    made();
    long before = made();
    RootBoxes x = busy();
    must("an object with 300 calls", made() - before, 40000);
    before = made();
    x.keep(0);
    x.keep(1);
    must("the two that are kept", made() - before, 40000);
    before = made();
    calls(x);
    must("650 dear calls", made() - before, 4000);
    System.out.println(wrong == 0 ? "the room is kept" : wrong + " things made too much");
    if (wrong != 0) System.exit(1);
  }
}
