import com.sun.management.ThreadMXBean;
import java.lang.management.ManagementFactory;

/** All calls of a run share one room: an object is small, and no call makes another one. */
public final class RoomTest {
  public static void main(String[] args) {
    ThreadMXBean threads = (ThreadMXBean) ManagementFactory.getThreadMXBean();
    ToneLines x = Check.made("hlmhlm/oO-ooOo/0:0 5:5",
        "again spread any right 1; fuse any; fill low; again shift high left; turn any to mid; link right;");
    dearCalls(x, 3);
    long before = threads.getCurrentThreadAllocatedBytes();
    dearCalls(x, 40);
    long made = threads.getCurrentThreadAllocatedBytes() - before;
    Check.due("bytes made by calls: " + made, made < 4096, true);
    before = threads.getCurrentThreadAllocatedBytes();
    ToneLines[] some = new ToneLines[100];
    for (int i = 0; i < some.length; i++) some[i] = new ToneLines();
    long each = (threads.getCurrentThreadAllocatedBytes() - before) / some.length;
    Check.due("bytes of an object: " + each, each < 40000, true);
    Check.end("RoomTest");
  }

  private static void dearCalls(ToneLines x, int times) {
    for (int i = 0; i < times; i++) {
      x.turn(i % 3, (i + 1) % 3);
      x.orders(0);
      x.sources(6);
      x.source(5);
      x.needed();
      x.exchanged(2);
      x.count(3);
      x.spell(6, -1);
      x.derive(6);
      x.undo();
      x.does(0);
      x.feed(0x682F6F2F, 0x303A3020, 0x20202020, 0x20202020, 0x20202020);
      x.back(1);
      if (i % 5 == 4) x.word(); else x.back(x.count(2));
    }
  }
}
