import java.lang.annotation.ElementType;
import java.lang.annotation.Repeatable;
import java.lang.annotation.Retention;
import java.lang.annotation.RetentionPolicy;
import java.lang.annotation.Target;

/**
 * A way to break the sentence that a test stands for: with this code put into ThreeRings.java instead
 * (behind the first place that has the text 'in'), the test must fail. BrokenTest tries each.
 */
@Retention(RetentionPolicy.RUNTIME)
@Target(ElementType.METHOD)
@Repeatable(Broken.All.class)
@interface Broken {
  String in() default "";

  String code();

  String as();

  @Retention(RetentionPolicy.RUNTIME)
  @Target(ElementType.METHOD)
  @interface All {
    Broken[] value();
  }
}
