import java.lang.reflect.Array;
import java.lang.reflect.Field;
import java.lang.reflect.Modifier;
import java.util.Collections;
import java.util.IdentityHashMap;
import java.util.Set;

/** Counts the objects that an object holds, and their fields and elements. */
final class Room {
  private final Set<Object> known = Collections.newSetFromMap(new IdentityHashMap<>());
  private int elements = 0;

  int objects() {
    return known.size();
  }

  int elements() {
    return elements;
  }

  void enter(Object one) {
    if (one == null || !known.add(one)) {
      return;
    }
    if (one.getClass().isArray()) {
      elements += Array.getLength(one);
      for (int i = 0; i < Array.getLength(one) && one instanceof Object[]; i++) {
        enter(Array.get(one, i));
      }
      return;
    }
    for (Field field : one.getClass().getDeclaredFields()) {
      if (!Modifier.isStatic(field.getModifiers())) {
        elements++;
        enterField(one, field);
      }
    }
  }

  private void enterField(Object one, Field field) {
    if (field.getType().isPrimitive()) {
      return;
    }
    try {
      field.setAccessible(true);
      enter(field.get(one));
    } catch (IllegalAccessException e) {
      throw new IllegalStateException(e);
    }
  }
}
