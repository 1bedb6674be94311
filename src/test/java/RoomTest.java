import java.lang.management.ManagementFactory;
import java.lang.reflect.Array;
import java.lang.reflect.Field;
import java.lang.reflect.Modifier;
import java.util.IdentityHashMap;
import java.util.Map;

/** All calls of a run live in one room: an object makes its rows when it is made, and none later. */
public final class RoomTest {
  private static final String CITY = "U9R01r12R23G00000G00101G10202G10303G11054G11154G21250G21353";

  public static void main(String[] args) throws Exception {
    ThreeRings x = Check.made(CITY);
    long[] count = new long[2];
    count(x, new IdentityHashMap<>(), count);
    System.out.println("one object: " + count[0] + " objects and arrays, " + count[1] + " fields and elements");
    Check.holds("512 objects fit the room", 512 * count[0] <= 600_000 && 512 * count[1] <= 7_300_000);
    everyCall(x);
    com.sun.management.ThreadMXBean bean = (com.sun.management.ThreadMXBean) ManagementFactory.getThreadMXBean();
    bean.getCurrentThreadAllocatedBytes();
    long before = bean.getCurrentThreadAllocatedBytes();
    for (int n = 0; n < 10; n++) everyCall(x);
    long made = bean.getCurrentThreadAllocatedBytes() - before;
    Check.holds("calls make nothing (" + made + " bytes)", made < 1024);
    Check.end("RoomTest");
  }

  private static int everyCall(ThreeRings x) {
    int sum = x.fault() + x.city() + x.about(0) + x.gate(0, 0) + x.pace(0) + x.turn(0, 3) + x.brake(0, 1, 2) + x.dry(1);
    sum += x.where(0, 1) + x.open(0, 4, 0) + x.next(0, 4, 0) + x.stays(0, 4, 0) + x.share(0, 4, true) + x.meet(3, 0);
    sum += x.soonest(0, 0, 7) + x.step(0, 0, 7, 1, 0) + x.latest(0, 7, 299) + x.round(0, 0, 255);
    sum += x.bestBrake(1, 5, 0, 0, 7) + x.harm(1, 5, 0, 0, 7) + x.worst(0, 7) + x.pumps(30);
    sum += x.see(0, 4, 5) + x.rows() + x.likely(0, true) + x.keep(0) + x.again(0) + x.unsee() + x.wipe();
    for (int i = 0; i < CITY.length(); i++) sum += x.write(1, CITY.charAt(i));
    return sum;
  }

  private static void count(Object o, Map<Object, Boolean> met, long[] count) throws Exception {
    if (o == null || met.put(o, true) != null) return;
    count[0]++;
    if (o.getClass().isArray()) {
      int n = Array.getLength(o);
      count[1] += n;
      if (!o.getClass().getComponentType().isPrimitive()) {
        for (int i = 0; i < n; i++) count(Array.get(o, i), met, count);
      }
      return;
    }
    for (Field f : o.getClass().getDeclaredFields()) {
      if (Modifier.isStatic(f.getModifiers())) continue;
      count[1]++;
      f.setAccessible(true);
      if (!f.getType().isPrimitive()) count(f.get(o), met, count);
    }
  }
}
